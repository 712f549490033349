/** Promises 15 to 17: reach, fewest, bridges. */
public final class ReachTest {
    private static final int[] NO_STATIONS = {-1, 6, 7, Integer.MIN_VALUE, Integer.MAX_VALUE};

    private ReachTest() {
    }

    public static void main(String[] args) {
        reachOfAChain();
        reachLeavesAllAsItIs();
        reachIsOfAQuietNet();
        reachRefusals();
        fewestOfAChain();
        fewestRefusals();
        bridgesOfNets();
        bridgesRefusals();
        Check.end("ReachTest");
    }

    /** 0 - 1 - 2 - 3 - 4 - 5, all but the first with the flood W and limit 7. */
    private static PathWords chain() {
        PathWords x = new PathWords();
        for (int s = 1; s < 6; s++) {
            Check.join(x, s - 1, s);
            Check.flood(x, s, "W");
            x.set(s, 0, 7);
        }
        return x;
    }

    private static void reach(PathWords x, int s, int n, int[] due) {
        for (int what = 0; what <= 3; what++) {
            Check.due("reach(" + s + ", " + n + ", " + what + ")", x.reach(s, n, what), due[what]);
        }
    }

    private static void reachOfAChain() {
        PathWords x = chain();
        Check.type(x, "W");
        // Each repeat is heard by the one before as well, so 0 hears it from 1.
        reach(x, 0, 1, new int[] {0b111, 1, 2, 0});
        reach(x, 0, 2, new int[] {0b1111, 2, 3, 0});
        reach(x, 0, 5, new int[] {0b111111, 4, 6, 0});
        reach(x, 0, 7, new int[] {0b111111, 4, 6, 0});
        // Both repeat at tick 1: 3 has a crash.
        reach(x, 3, 1, new int[] {0b110110, 1, 3, 1});
        Check.due("the pad stays", x.count(1), 1);
        x.set(2, 0, 1);
        reach(x, 0, 7, new int[] {0b1111, 2, 3, 0});
        x.set(1, 1, 3);
        reach(x, 0, 1, new int[] {0b111, 3, 2, 0});
        // No one repeats a name that is none's.
        Check.type(x, "V");
        reach(x, 0, 7, new int[] {0b10, 0, 1, 0});
        // A call as the name, and the name of a stand-in, which has no hops here.
        Check.type(x, "B");
        reach(x, 0, 7, new int[] {0b111, 3, 2, 0});
        Check.standIn(x, 1, "S");
        Check.type(x, "S");
        reach(x, 0, 1, new int[] {0b10, 0, 1, 0});
        // Its own call and flood help nobody: what comes back is its own.
        Check.type(x, "A");
        reach(x, 0, 3, new int[] {0b10, 0, 1, 0});
        PathWords alone = new PathWords();
        Check.type(alone, "W");
        reach(alone, 2, 7, new int[] {0, PathWords.NONE, 1, 0});
    }

    private static void reachLeavesAllAsItIs() {
        PathWords x = chain();
        Check.send(x, 0, "A>W-5:q");
        x.run(2);
        Check.send(x, 3, "D>W-2:r");
        Check.type(x, "W");
        String before = Check.state(x);
        Check.due("reach", x.reach(0, 7, 0), 63);
        Check.due("fewest", x.fewest(0, 5), 4);
        Check.due("bridges", x.bridges(0, 5, 7), 0b11110);
        Check.due("state", Check.state(x), before);
    }

    private static void reachIsOfAQuietNet() {
        PathWords x = chain();
        for (char letter = 'a'; letter <= 'z'; letter++) {
            Check.send(x, 0, "A>W-5:" + letter);
            x.run(1);
        }
        Check.send(x, 1, "B>W-5:a");
        Check.type(x, "W");
        reach(x, 0, 7, new int[] {0b111111, 4, 6, 0});
    }

    private static void reachRefusals() {
        PathWords x = chain();
        for (int s : NO_STATIONS) {
            Check.due("reach of no station", x.reach(s, 0, 4), PathWords.UNKNOWN);
        }
        int[][] outside = {
            {0, 0}, {8, 0}, {-1, 0}, {Integer.MAX_VALUE, 0}, {1, -1}, {1, 4}, {1, Integer.MIN_VALUE},
        };
        for (int[] pair : outside) {
            Check.due("reach(0, " + pair[0] + ", " + pair[1] + ")", x.reach(0, pair[0], pair[1]), PathWords.OUTSIDE);
        }
        String[] bad = {"", "w", "ABCD", "W-1", "A>W:a"};
        for (String text : bad) {
            Check.type(x, text);
            Check.due("reach by " + text, x.reach(0, 1, 0), PathWords.FAULT);
            Check.due("fewest by " + text, x.fewest(0, 1), PathWords.FAULT);
            Check.due("bridges by " + text, x.bridges(0, 1, 1), PathWords.FAULT);
            Check.due("the pad stays", x.count(1), text.length());
        }
    }

    private static void fewestOfAChain() {
        PathWords x = chain();
        Check.type(x, "W");
        Check.due("fewest(0, 1)", x.fewest(0, 1), 1);
        Check.due("fewest(0, 2)", x.fewest(0, 2), 1);
        Check.due("fewest(0, 3)", x.fewest(0, 3), 2);
        Check.due("fewest(0, 5)", x.fewest(0, 5), 4);
        Check.due("fewest(5, 0)", x.fewest(5, 0), 4);
        Check.due("fewest(3, 4)", x.fewest(3, 4), 1);
        Check.due("the pad stays", x.count(1), 1);
        x.set(1, 0, 3);
        Check.due("held to fewer", x.fewest(0, 4), 3);
        Check.due("held to fewer", x.fewest(0, 5), PathWords.NONE);
        x.near(2, 3, 0);
        Check.due("parted", x.fewest(0, 3), PathWords.NONE);
        Check.due("parted", x.fewest(0, 2), 1);
    }

    private static void fewestRefusals() {
        PathWords x = chain();
        for (int s : NO_STATIONS) {
            Check.due("fewest of no station", x.fewest(s, 0), PathWords.UNKNOWN);
            Check.due("fewest to no station", x.fewest(0, s), PathWords.UNKNOWN);
            Check.due("fewest of none to itself", x.fewest(s, s), PathWords.UNKNOWN);
        }
        Check.due("fewest(1, 1)", x.fewest(1, 1), PathWords.OUTSIDE);
    }

    private static void bridgesOfNets() {
        PathWords x = chain();
        Check.type(x, "W");
        Check.due("bridges(0, 5, 4)", x.bridges(0, 5, 4), 0b11110);
        Check.due("bridges(0, 5, 3)", x.bridges(0, 5, 3), PathWords.NONE);
        Check.due("bridges(0, 2, 1)", x.bridges(0, 2, 1), 0b10);
        Check.due("bridges(2, 0, 7)", x.bridges(2, 0, 7), 0b10);
        Check.due("bridges(0, 1, 1)", x.bridges(0, 1, 1), 0);
        // A second way, by 4, a tick later: 1 is no bridge any more.
        PathWords y = new PathWords();
        Check.join(y, 0, 1, 1, 2, 0, 4, 4, 2, 2, 3);
        int[] repeaters = {1, 2, 4};
        for (int s : repeaters) {
            Check.flood(y, s, "W");
        }
        y.set(4, 1, 3);
        Check.type(y, "W");
        Check.due("bridges(0, 3, 2)", y.bridges(0, 3, 2), 0b100);
        Check.due("bridges(0, 3, 1)", y.bridges(0, 3, 1), PathWords.NONE);
        // Both at once crash at 2, so it does not come with all.
        y.set(4, 1, 1);
        Check.due("bridges(0, 3, 2)", y.bridges(0, 3, 2), PathWords.NONE);
        Check.due("near stays", y.near(0, 4, 1), 2);
        Check.due("pairs stay", y.count(5), 5);
    }

    private static void bridgesRefusals() {
        PathWords x = chain();
        for (int s : NO_STATIONS) {
            Check.due("bridges of no station", x.bridges(s, 0, 0), PathWords.UNKNOWN);
            Check.due("bridges to no station", x.bridges(0, s, 0), PathWords.UNKNOWN);
            Check.due("bridges of none to itself", x.bridges(s, s, 1), PathWords.UNKNOWN);
        }
        Check.due("bridges(1, 1, 1)", x.bridges(1, 1, 1), PathWords.OUTSIDE);
        int[] outside = {0, 8, -1, Integer.MIN_VALUE, Integer.MAX_VALUE};
        for (int n : outside) {
            Check.due("bridges(0, 1, " + n + ")", x.bridges(0, 1, n), PathWords.OUTSIDE);
        }
    }
}
