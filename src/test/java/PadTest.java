/** Promises 1 to 4: a new object, say, wipe, fault. */
public final class PadTest {
    private PadTest() {
    }

    public static void main(String[] args) {
        newObject();
        saying();
        wiping();
        goodPackets();
        faults();
        faultsOfPrefixes();
        Check.end("PadTest");
    }

    private static void newObject() {
        PathWords x = new PathWords();
        for (int what = 0; what <= 6; what++) {
            Check.due("new count(" + what + ")", x.count(what), 0);
        }
        for (int s = 0; s < 6; s++) {
            Check.due("new tallies of " + s, Check.tallies(x, s), "0 0 0 0 0 0 0 0 0 0 0");
            Check.due("new set limit", x.set(s, 0, 3), 3);
            Check.due("new set delay", x.set(s, 1, 1), 1);
            Check.due("new set window", x.set(s, 2, 10), 10);
            Check.due("new stand-ins", x.forget(s, 1), 0);
            Check.due("new floods", x.forget(s, 2), 0);
        }
        Check.due("new restore(0)", x.restore(0), PathWords.STATE);
        Check.due("new restore(1)", x.restore(1), PathWords.STATE);
        for (int s = 0; s < 6; s++) {
            Check.type(x, String.valueOf((char) ('A' + s)));
            Check.due("a call of a new object is taken", x.name((s + 1) % 6, 0), PathWords.STATE);
            Check.due("its own call", x.name(s, 0), 1);
        }
        for (int s = 0; s < 6; s++) {
            for (int o = s + 1; o < 6; o++) {
                Check.due("none is near", x.near(s, o, 0), 0);
            }
        }
    }

    private static void saying() {
        PathWords x = new PathWords();
        int[] outside = {32, 127, 0, -1, 128, 33 + 256, 65536 + 65, Integer.MIN_VALUE, Integer.MAX_VALUE};
        for (int sign : outside) {
            Check.due("say(" + sign + ")", x.say(sign), PathWords.OUTSIDE);
            Check.due("nothing was said", x.count(1), 0);
        }
        Check.due("say(33)", x.say(33), 1);
        Check.due("say(126)", x.say(126), 2);
        for (int i = 3; i <= 40; i++) {
            Check.due("say", x.say('A'), i);
        }
        Check.due("one sign more than 40", x.say('A'), PathWords.FULL);
        Check.due("outside comes ahead of full", x.say(32), PathWords.OUTSIDE);
        Check.due("still 40", x.count(1), 40);
        Check.due("fault", x.fault(), 0);
        Check.due("wipe", x.wipe(), 40);
        Check.due("say again", x.say('A'), 1);
    }

    private static void wiping() {
        PathWords x = new PathWords();
        Check.due("wipe of nothing", x.wipe(), 0);
        Check.type(x, "AB");
        Check.due("wipe", x.wipe(), 2);
        Check.due("wipe again", x.wipe(), 0);
        Check.due("count(1)", x.count(1), 0);
        Check.due("fault of nothing", x.fault(), 0);
    }

    private static final String[] GOOD = {
        "A>:a", "ABC>:abcd", "Z>Z:z", "A>B*:x", "A>B-1:x", "A>B-7*:x", "A>B,C*,D-3*,EEE:xyz",
        "A>A,A,A,A,A:x", "ABC>ABC-1*,ABC-2*,ABC-3*,ABC-4*,ABC-7*:a",
    };

    private static void goodPackets() {
        PathWords x = new PathWords();
        for (String text : GOOD) {
            Check.type(x, text);
            Check.due("fault of " + text, x.fault(), PathWords.NONE);
            Check.due("the pad stays", x.count(1), text.length());
        }
    }

    private static void fault(PathWords x, String text, int place) {
        Check.type(x, text);
        Check.due("fault of " + text, x.fault(), place);
        Check.due("send of " + text, x.send(0), PathWords.FAULT);
        Check.due("the pad stays", x.count(1), text.length());
    }

    private static void faults() {
        PathWords x = new PathWords();
        fault(x, "", 0);
        fault(x, "a>:x", 0);
        fault(x, ">:x", 0);
        fault(x, "[>:x", 0);
        fault(x, "@>:x", 0);
        fault(x, "ABCD>:x", 3);
        fault(x, "A:x", 1);
        fault(x, "A*>:x", 1);
        fault(x, "A-1>:x", 1);
        fault(x, "A>,B:x", 2);
        fault(x, "A>>:x", 2);
        fault(x, "A>*:x", 2);
        fault(x, "A>b:x", 2);
        fault(x, "A>BCDE:x", 5);
        fault(x, "A>B-0:x", 4);
        fault(x, "A>B-8:x", 4);
        fault(x, "A>B-*:x", 4);
        fault(x, "A>B-12:x", 5);
        fault(x, "A>B**:x", 4);
        fault(x, "A>B*-1:x", 4);
        fault(x, "A>B,:x", 4);
        fault(x, "A>B,,C:x", 4);
        fault(x, "A>B;C:x", 3);
        fault(x, "A>::x", 3);
        fault(x, "A>:X", 3);
        fault(x, "A>:x1", 4);
        fault(x, "A>:`", 3);
        fault(x, "A>:{", 3);
        fault(x, "A>:abcde", 7);
        fault(x, "A>:abcd:", 7);
        fault(x, "A>B:a,", 5);
        fault(x, "A>A,A,A,A,A,A:x", 11);
        fault(x, "A>A,A,A,A,A,", 11);
        fault(x, "A>AAA-1*,AAA-1*,AAA-1*,AAA-1*,AAA-1*,A", 36);
        fault(x, "a>0", 0);
    }

    /** Each beginning of a good packet wants just one thing more. */
    private static void faultsOfPrefixes() {
        for (String text : GOOD) {
            int colon = text.indexOf(':');
            for (int n = 0; n <= colon + 1; n++) {
                fault(new PathWords(), text.substring(0, n), n);
            }
        }
    }
}
