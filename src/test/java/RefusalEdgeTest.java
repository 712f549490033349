/**
 * Each refusal of each call changes nothing, and of several that fit the first one told is answered. Those that
 * are wrong in more than one way are here, too.
 */
public final class RefusalEdgeTest {
    private static final int UNKNOWN = PathWords.UNKNOWN;
    private static final int OUTSIDE = PathWords.OUTSIDE;
    private static final int STATE = PathWords.STATE;
    private static final int FULL = PathWords.FULL;
    private static final int FAULT = PathWords.FAULT;
    private static final int[] NO_STATIONS = Edges.noStations();

    private RefusalEdgeTest() {
    }

    public static void main(String[] args) throws ReflectiveOperationException {
        Edges.run(RefusalEdgeTest.class, 2, 20);
    }

    /** Something of everything: names, settings, packets that are kept, known and heard, an image. */
    private static PathWords busy(String pad) {
        PathWords x = new PathWords();
        Check.join(x, 0, 1, 1, 2, 2, 3, 3, 4);
        Check.call(x, 1, "BB");
        Check.call(x, 2, "CCC");
        Check.standIn(x, 1, "S");
        Check.type(x, "T");
        x.name(1, 1);
        Check.flood(x, 1, "W");
        Check.type(x, "V");
        x.name(1, 2);
        Check.flood(x, 2, "W");
        x.set(1, 0, 5);
        x.set(2, 1, 3);
        x.set(3, 2, 20);
        Check.send(x, 0, "A>W-4:a");
        x.run(2);
        x.image(0);
        Check.send(x, 0, "A>BB:b");
        Check.send(x, 4, "E>:c");
        x.run(1);
        Check.send(x, 0, "A>X:d");
        Check.type(x, pad);
        return x;
    }

    /** Station 0 keeps twelve packets. */
    private static PathWords keeping(String pad) {
        PathWords x = new PathWords();
        Check.join(x, 0, 1, 3, 4);
        for (int i = 0; i < 12; i++) {
            x.say('Q');
            x.say('>');
            x.say(':');
            x.say('a' + i);
            x.send(0);
        }
        Check.type(x, pad);
        return x;
    }

    private static void refused(String what, String pad, Twins.Call call, int due) {
        Twins.refused(what + " of '" + pad + "'", () -> busy(pad), call, due);
    }

    private static final String[] PADS = {"", "W", "D", "Q>BB,A*:q", "Q>B", "q"};
    private static final String LONG = "AAA>BBB-1*,CCC-2*,DDD-3*,EEE-4*,FFF-5*:z";

    static void p02SayRefused() {
        for (int sign : Edges.beyond(33, 126)) {
            for (String pad : PADS) {
                refused("say(" + sign + ")", pad, x -> x.say(sign), OUTSIDE);
            }
            refused("say(" + sign + ")", LONG, x -> x.say(sign), OUTSIDE);
        }
        for (int sign = 33; sign <= 126; sign += 31) {
            int one = sign;
            refused("say(" + sign + ")", LONG, x -> x.say(one), FULL);
        }
    }

    static void p05NameRefused() {
        int[] whats = {-1, 0, 1, 2, 3};
        for (int s : NO_STATIONS) {
            for (int what : whats) {
                refused("name(" + s + ", " + what + ")", "D", x -> x.name(s, what), UNKNOWN);
                refused("name(" + s + ", " + what + ")", "q", x -> x.name(s, what), UNKNOWN);
            }
        }
        for (int what : Edges.beyond(0, 2)) {
            refused("name(1, " + what + ")", "D", x -> x.name(1, what), OUTSIDE);
            refused("name(1, " + what + ")", "q", x -> x.name(1, what), OUTSIDE);
        }
        String[] bad = {"", "q", "WXYZ", "Q>BB,A*:q", "Q>", LONG};
        for (String pad : bad) {
            for (int what = 0; what <= 2; what++) {
                int one = what;
                refused("name(1, " + what + ")", pad, x -> x.name(1, one), FAULT);
                refused("name(5, " + what + ")", pad, x -> x.name(5, one), FAULT);
            }
        }
        refused("name(1, 0)", "D", x -> x.name(1, 0), STATE);
        refused("name(5, 0)", "CCC", x -> x.name(5, 0), STATE);
        refused("name(1, 1)", "G", x -> x.name(1, 1), FULL);
        refused("name(1, 2)", "G", x -> x.name(1, 2), FULL);
    }

    static void p06ForgetRefused() {
        int[] whats = {-1, 0, 1, 2, 3};
        for (int s : NO_STATIONS) {
            for (int what : whats) {
                refused("forget(" + s + ", " + what + ")", "W", x -> x.forget(s, what), UNKNOWN);
            }
        }
        for (int what : Edges.beyond(1, 2)) {
            refused("forget(1, " + what + ")", "W", x -> x.forget(1, what), OUTSIDE);
        }
    }

    static void p07SetRefused() {
        int[] whats = {-1, 0, 1, 2, 3};
        for (int s : NO_STATIONS) {
            for (int what : whats) {
                refused("set(" + s + ", " + what + ", 2)", "", x -> x.set(s, what, 2), UNKNOWN);
                refused("set(" + s + ", " + what + ", 61)", "", x -> x.set(s, what, 61), UNKNOWN);
            }
        }
        for (int what : Edges.beyond(0, 2)) {
            refused("set(1, " + what + ", 2)", "", x -> x.set(1, what, 2), OUTSIDE);
            refused("set(1, " + what + ", 61)", "", x -> x.set(1, what, 61), OUTSIDE);
        }
        int[] least = {1, 1, 0};
        int[] greatest = {7, 3, 60};
        for (int what = 0; what <= 2; what++) {
            int one = what;
            for (int n : Edges.beyond(least[what], greatest[what])) {
                refused("set(1, " + what + ", " + n + ")", "", x -> x.set(1, one, n), OUTSIDE);
            }
        }
    }

    static void p08NearRefused() {
        for (int s : NO_STATIONS) {
            for (int n = 0; n <= 2; n++) {
                int is = n;
                refused("near(" + s + ", 1, " + is + ")", "", x -> x.near(s, 1, is), UNKNOWN);
                refused("near(1, " + s + ", " + is + ")", "", x -> x.near(1, s, is), UNKNOWN);
                refused("near(" + s + ", " + s + ", " + is + ")", "", x -> x.near(s, s, is), UNKNOWN);
            }
        }
        for (int is : Edges.beyond(0, 1)) {
            refused("near(0, 1, " + is + ")", "", x -> x.near(0, 1, is), OUTSIDE);
            refused("near(0, 5, " + is + ")", "", x -> x.near(0, 5, is), OUTSIDE);
            refused("near(1, 1, " + is + ")", "", x -> x.near(1, 1, is), OUTSIDE);
        }
        for (int s = 0; s < 6; s++) {
            int one = s;
            refused("near(" + s + ", " + s + ", 0)", "", x -> x.near(one, one, 0), OUTSIDE);
            refused("near(" + s + ", " + s + ", 1)", "", x -> x.near(one, one, 1), OUTSIDE);
        }
    }

    static void p09SendRefused() {
        for (int s : NO_STATIONS) {
            refused("send(" + s + ")", "Q>BB,A*:q", x -> x.send(s), UNKNOWN);
            refused("send(" + s + ")", "Q>", x -> x.send(s), UNKNOWN);
        }
        String[] bad = {"", "q", "W", "Q>", "Q>B:", "Q>B-8:a", "Q>A,A,A,A,A,A:a", "Q>:abcde"};
        for (String pad : bad) {
            for (int s = 0; s < 6; s++) {
                int one = s;
                refused("send(" + s + ")", pad, x -> x.send(one), FAULT);
            }
            Twins.refused("send(0), full, of '" + pad + "'", () -> keeping(pad), x -> x.send(0), FAULT);
        }
        Twins.refused("send(0), full", () -> keeping("Q>:z"), x -> x.send(0), FULL);
        Twins.refused("send(0), full, of one that it knows", () -> keeping("Q>:c"), x -> x.send(0), FULL);
    }

    static void p10RunRefused() {
        for (int n : Edges.beyond(1, 50)) {
            refused("run(" + n + ")", "W", x -> x.run(n), OUTSIDE);
            Twins.refused("run(" + n + "), full", () -> keeping(""), x -> x.run(n), OUTSIDE);
        }
    }

    static void p11HeardRefused() {
        for (int s : NO_STATIONS) {
            refused("heard(" + s + ", 10)", "", x -> x.heard(s, 10), UNKNOWN);
            refused("heard(" + s + ", 11)", "", x -> x.heard(s, 11), UNKNOWN);
        }
        for (int what : Edges.beyond(0, 10)) {
            refused("heard(1, " + what + ")", "", x -> x.heard(1, what), OUTSIDE);
        }
    }

    static void p12WrittenRefused() {
        for (int s : NO_STATIONS) {
            refused("written(" + s + ", 0)", "", x -> x.written(s, 0), UNKNOWN);
            refused("written(" + s + ", -2)", "", x -> x.written(s, -2), UNKNOWN);
        }
        int[] below = {-2, -3, -64, Integer.MIN_VALUE};
        for (int k : below) {
            refused("written(1, " + k + ")", "", x -> x.written(1, k), OUTSIDE);
            refused("written(5, " + k + ")", "", x -> x.written(5, k), OUTSIDE);
        }
        int[] all = {-1, 0, 1, Integer.MAX_VALUE};
        for (int k : all) {
            refused("written(5, " + k + ")", "", x -> x.written(5, k), STATE);
        }
    }

    static void p13LastRefused() {
        for (int s : NO_STATIONS) {
            refused("last(" + s + ", 0)", "", x -> x.last(s, 0), UNKNOWN);
            refused("last(" + s + ", 4)", "", x -> x.last(s, 4), UNKNOWN);
        }
        for (int what : Edges.beyond(0, 3)) {
            refused("last(1, " + what + ")", "", x -> x.last(1, what), OUTSIDE);
            refused("last(5, " + what + ")", "", x -> x.last(5, what), OUTSIDE);
        }
        for (int what = 0; what <= 3; what++) {
            int one = what;
            refused("last(5, " + what + ")", "", x -> x.last(5, one), STATE);
        }
    }

    static void p14TrailRefused() {
        for (int s : NO_STATIONS) {
            refused("trail(" + s + ", 0)", "", x -> x.trail(s, 0), UNKNOWN);
            refused("trail(" + s + ", -2)", "", x -> x.trail(s, -2), UNKNOWN);
        }
        int[] all = {Integer.MIN_VALUE, -2, -1, 0, Integer.MAX_VALUE};
        for (int i : all) {
            refused("trail(5, " + i + ")", "", x -> x.trail(5, i), STATE);
        }
    }

    static void p15ReachRefused() {
        for (int s : NO_STATIONS) {
            refused("reach(" + s + ", 1, 0)", "W", x -> x.reach(s, 1, 0), UNKNOWN);
            refused("reach(" + s + ", 0, 4)", "q", x -> x.reach(s, 0, 4), UNKNOWN);
        }
        for (int n : Edges.beyond(1, 7)) {
            refused("reach(0, " + n + ", 0)", "W", x -> x.reach(0, n, 0), OUTSIDE);
            refused("reach(0, " + n + ", 4)", "q", x -> x.reach(0, n, 4), OUTSIDE);
        }
        for (int what : Edges.beyond(0, 3)) {
            refused("reach(0, 1, " + what + ")", "W", x -> x.reach(0, 1, what), OUTSIDE);
            refused("reach(0, 1, " + what + ")", "", x -> x.reach(0, 1, what), OUTSIDE);
        }
        String[] bad = {"", "q", "WXYZ", "Q>BB,A*:q"};
        for (String pad : bad) {
            refused("reach(0, 1, 0)", pad, x -> x.reach(0, 1, 0), FAULT);
        }
    }

    static void p16FewestRefused() {
        for (int s : NO_STATIONS) {
            refused("fewest(" + s + ", 0)", "W", x -> x.fewest(s, 0), UNKNOWN);
            refused("fewest(0, " + s + ")", "q", x -> x.fewest(0, s), UNKNOWN);
            refused("fewest(" + s + ", " + s + ")", "W", x -> x.fewest(s, s), UNKNOWN);
        }
        for (int s = 0; s < 6; s++) {
            int one = s;
            refused("fewest(" + s + ", " + s + ")", "W", x -> x.fewest(one, one), OUTSIDE);
            refused("fewest(" + s + ", " + s + ")", "q", x -> x.fewest(one, one), OUTSIDE);
        }
        String[] bad = {"", "q", "WXYZ", "Q>BB,A*:q"};
        for (String pad : bad) {
            refused("fewest(0, 5)", pad, x -> x.fewest(0, 5), FAULT);
        }
    }

    static void p17BridgesRefused() {
        for (int s : NO_STATIONS) {
            refused("bridges(" + s + ", 0, 1)", "W", x -> x.bridges(s, 0, 1), UNKNOWN);
            refused("bridges(0, " + s + ", 8)", "q", x -> x.bridges(0, s, 8), UNKNOWN);
            refused("bridges(" + s + ", " + s + ", 1)", "W", x -> x.bridges(s, s, 1), UNKNOWN);
        }
        for (int s = 0; s < 6; s++) {
            int one = s;
            refused("bridges(" + s + ", " + s + ", 1)", "W", x -> x.bridges(one, one, 1), OUTSIDE);
            refused("bridges(" + s + ", " + s + ", 8)", "q", x -> x.bridges(one, one, 8), OUTSIDE);
        }
        for (int n : Edges.beyond(1, 7)) {
            refused("bridges(0, 2, " + n + ")", "W", x -> x.bridges(0, 2, n), OUTSIDE);
            refused("bridges(0, 2, " + n + ")", "", x -> x.bridges(0, 2, n), OUTSIDE);
        }
        String[] bad = {"", "q", "WXYZ", "Q>BB,A*:q"};
        for (String pad : bad) {
            refused("bridges(0, 5, 7)", pad, x -> x.bridges(0, 5, 7), FAULT);
        }
    }

    static void p18ImageRefused() {
        for (int k : Edges.beyond(0, 1)) {
            refused("image(" + k + ")", "W", x -> x.image(k), OUTSIDE);
        }
    }

    static void p19RestoreRefused() {
        for (int k : Edges.beyond(0, 1)) {
            refused("restore(" + k + ")", "W", x -> x.restore(k), OUTSIDE);
        }
        refused("restore(1)", "W", x -> x.restore(1), STATE);
        Twins.refused("restore(0)", () -> keeping(""), x -> x.restore(0), STATE);
    }

    static void p20CountRefused() {
        for (int what : Edges.beyond(0, 6)) {
            refused("count(" + what + ")", "W", x -> x.count(what), OUTSIDE);
        }
    }

    // ---- calls that refuse nothing

    static void p03WipeIsNeverRefused() {
        for (String pad : PADS) {
            PathWords x = busy(pad);
            Check.due("wipe of '" + pad + "'", x.wipe(), pad.length());
            Check.due("again", x.wipe(), 0);
        }
    }

    /** Only what the calls tell, and nothing that they change: asking can be taken for a refused call. */
    static void p04FaultIsNeverRefused() {
        int[] due = {0, 1, 1, PathWords.NONE, 3, 0};
        for (int i = 0; i < PADS.length; i++) {
            refused("fault()", PADS[i], x -> x.fault(), due[i]);
        }
    }

    static void p12TellingChangesNothing() {
        refused("written(1, 0)", "W", x -> x.written(1, 0), 'A');
        refused("written(1, 99)", "W", x -> x.written(1, 99), PathWords.NONE);
    }

    static void p13TellingChangesNothing() {
        refused("last(3, 1)", "W", x -> x.last(3, 1), 0);
    }

    static void p14TellingChangesNothing() {
        refused("trail(0, -2)", "W", x -> x.trail(0, -2), PathWords.NONE);
    }

    static void p15TellingChangesNothing() {
        refused("reach(4, 7, 1)", "W", x -> x.reach(4, 7, 1), 0);
    }

    static void p16TellingChangesNothing() {
        refused("fewest(0, 5)", "W", x -> x.fewest(0, 5), PathWords.NONE);
    }

    static void p17TellingChangesNothing() {
        refused("bridges(0, 3, 2)", "W", x -> x.bridges(0, 3, 2), 0b110);
    }
}
