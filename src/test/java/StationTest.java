/** Promises 5 to 8: name, forget, set, near. */
public final class StationTest {
    private static final int[] NO_STATIONS = {-1, 6, 7, Integer.MIN_VALUE, Integer.MAX_VALUE};

    private StationTest() {
    }

    public static void main(String[] args) {
        calls();
        standInsAndFloods();
        nameRefusals();
        forgetting();
        setting();
        settingRefusals();
        nearness();
        nearRefusals();
        Check.end("StationTest");
    }

    private static void calls() {
        PathWords x = new PathWords();
        Check.call(x, 0, "XYZ");
        Check.due("the pad is empty then", x.count(1), 0);
        Check.call(x, 0, "XYZ");
        Check.call(x, 1, "A");
        Check.type(x, "A");
        Check.due("A is taken by 1 now", x.name(0, 0), PathWords.STATE);
        Check.due("the pad stays", x.count(1), 1);
        Check.call(x, 1, "AA");
        Check.call(x, 0, "A");
        Check.call(x, 2, "AAA");
        // The stand-ins and floods of others, and of itself, do not hinder a call.
        Check.standIn(x, 3, "Q");
        Check.flood(x, 3, "R");
        Check.call(x, 4, "Q");
        Check.call(x, 3, "R");
        // A call of another one can be a stand-in, a flood.
        Check.standIn(x, 5, "A");
        Check.flood(x, 5, "A");
    }

    private static void standInsAndFloods() {
        PathWords x = new PathWords();
        for (int what = 1; what <= 2; what++) {
            Check.type(x, "RL");
            Check.due("first", x.name(2, what), 1);
            Check.due("the pad is empty then", x.count(1), 0);
            Check.type(x, "RL");
            Check.due("second, the same", x.name(2, what), 2);
            Check.type(x, "W");
            Check.due("third", x.name(2, what), PathWords.FULL);
            Check.due("the pad stays", x.count(1), 1);
        }
        Check.due("had stand-ins", x.forget(2, 1), 2);
        Check.due("had floods", x.forget(2, 2), 2);
        Check.due("others have none", x.forget(1, 1), 0);
    }

    private static void nameRefusals() {
        PathWords x = new PathWords();
        for (int s : NO_STATIONS) {
            Check.due("name of no station", x.name(s, 9), PathWords.UNKNOWN);
        }
        int[] outside = {-1, 3, Integer.MIN_VALUE, Integer.MAX_VALUE};
        for (int what : outside) {
            Check.due("name(0, " + what + ")", x.name(0, what), PathWords.OUTSIDE);
        }
        String[] bad = {"", "a", "ABCD", "A1", "A*", "1A", "A>", "A-1", "[", "@", "ABc"};
        for (String text : bad) {
            Check.type(x, text);
            for (int what = 0; what <= 2; what++) {
                Check.due("name(1, " + what + ") " + text, x.name(1, what), PathWords.FAULT);
            }
            Check.due("the pad stays", x.count(1), text.length());
        }
        Check.type(x, "W");
        Check.due("one", x.name(1, 1), 1);
        Check.type(x, "W");
        Check.due("two", x.name(1, 1), 2);
        Check.type(x, "w");
        Check.due("a fault comes ahead of full", x.name(1, 1), PathWords.FAULT);
        Check.due("had", x.forget(1, 1), 2);
    }

    private static void forgetting() {
        PathWords x = new PathWords();
        for (int s : NO_STATIONS) {
            Check.due("forget of no station", x.forget(s, 0), PathWords.UNKNOWN);
        }
        int[] outside = {-1, 0, 3, Integer.MIN_VALUE, Integer.MAX_VALUE};
        for (int what : outside) {
            Check.due("forget(0, " + what + ")", x.forget(0, what), PathWords.OUTSIDE);
        }
        Check.standIn(x, 1, "S");
        Check.flood(x, 1, "T");
        Check.type(x, "PAD");
        Check.due("forget stand-ins", x.forget(1, 1), 1);
        Check.due("again", x.forget(1, 1), 0);
        Check.due("forget floods", x.forget(1, 2), 1);
        Check.due("again", x.forget(1, 2), 0);
        Check.due("the pad stays", x.count(1), 3);
        // What is forgotten is not repeated any more.
        Check.join(x, 0, 1);
        Check.send(x, 0, "A>S:a");
        Check.send(x, 0, "A>T-2:b");
        x.run(2);
        Check.due("tallies", Check.tallies(x, 1), "0 2 0 0 0 0 2 0 0 0 2");
    }

    private static void setting() {
        PathWords x = new PathWords();
        int[] first = {3, 1, 10};
        int[] low = {1, 1, 0};
        int[] high = {7, 3, 60};
        for (int what = 0; what <= 2; what++) {
            Check.due("was at first", x.set(4, what, low[what]), first[what]);
            Check.due("was low", x.set(4, what, high[what]), low[what]);
            Check.due("was high", x.set(4, what, first[what]), high[what]);
            Check.due("another one", x.set(3, what, first[what]), first[what]);
        }
    }

    private static void settingRefusals() {
        PathWords x = new PathWords();
        for (int s : NO_STATIONS) {
            Check.due("set of no station", x.set(s, 9, 99), PathWords.UNKNOWN);
        }
        int[][] outside = {
            {-1, 1}, {3, 1}, {Integer.MAX_VALUE, 1}, {Integer.MIN_VALUE, 1}, {0, 0}, {0, 8}, {0, -1}, {1, 0}, {1, 4},
            {1, -1}, {2, -1}, {2, 61}, {2, Integer.MAX_VALUE}, {0, Integer.MIN_VALUE},
        };
        for (int[] pair : outside) {
            Check.due("set(0, " + pair[0] + ", " + pair[1] + ")", x.set(0, pair[0], pair[1]), PathWords.OUTSIDE);
        }
        Check.due("limit", x.set(0, 0, 3), 3);
        Check.due("delay", x.set(0, 1, 1), 1);
        Check.due("window", x.set(0, 2, 10), 10);
    }

    private static void nearness() {
        PathWords x = new PathWords();
        Check.due("near", x.near(0, 1, 1), 1);
        Check.due("near again", x.near(0, 1, 1), 1);
        Check.due("near the other way", x.near(1, 0, 1), 1);
        Check.due("pairs", x.count(5), 1);
        Check.due("near", x.near(2, 0, 1), 1);
        Check.due("near", x.near(0, 5, 1), 3);
        Check.due("pairs", x.count(5), 3);
        Check.due("no more", x.near(1, 0, 0), 0);
        Check.due("not near at all", x.near(3, 0, 0), 0);
        Check.due("of the first", x.near(0, 3, 0), 2);
        Check.due("pairs", x.count(5), 2);
        for (int s = 0; s < 6; s++) {
            for (int o = 0; o < 6; o++) {
                if (s != o) {
                    x.near(s, o, 1);
                }
            }
        }
        Check.due("all pairs", x.count(5), 15);
        Check.due("all near 5", x.near(5, 0, 1), 5);
    }

    private static void nearRefusals() {
        PathWords x = new PathWords();
        for (int s : NO_STATIONS) {
            Check.due("near of no station", x.near(s, 0, 2), PathWords.UNKNOWN);
            Check.due("near to no station", x.near(0, s, 2), PathWords.UNKNOWN);
            Check.due("near of none to itself", x.near(s, s, 1), PathWords.UNKNOWN);
        }
        int[] outside = {-1, 2, Integer.MIN_VALUE, Integer.MAX_VALUE};
        for (int is : outside) {
            Check.due("near(0, 1, " + is + ")", x.near(0, 1, is), PathWords.OUTSIDE);
        }
        Check.due("near(2, 2, 1)", x.near(2, 2, 1), PathWords.OUTSIDE);
        Check.due("near(2, 2, 0)", x.near(2, 2, 0), PathWords.OUTSIDE);
        Check.due("pairs", x.count(5), 0);
    }
}
