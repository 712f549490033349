/** The edges of promises 1 to 4, and of part 1 of the terms: a new object, say, wipe, fault. */
public final class PadEdgeTest {
    private static final String FIVE_LONG_WORDS = "AAA>BBB-1*,CCC-2*,DDD-3*,EEE-4*,FFF-5*";

    private PadEdgeTest() {
    }

    public static void main(String[] args) throws ReflectiveOperationException {
        Edges.run(PadEdgeTest.class, 1, 4);
    }

    // ---- a new object

    static void p01NoStationsAreNearEachOther() {
        PathWords x = new PathWords();
        Check.due("pairs", x.count(5), 0);
        for (int one = 0; one < 6; one++) {
            for (int other = 0; other < 6; other++) {
                if (one != other) {
                    Check.due("near(" + one + ", " + other + ", 0)", x.near(one, other, 0), 0);
                }
            }
        }
    }

    static void p01NowIs0() {
        Check.due("count(0)", new PathWords().count(0), 0);
    }

    static void p01ThePadIsEmpty() {
        Check.due("count(1)", new PathWords().count(1), 0);
        Check.due("wipe()", new PathWords().wipe(), 0);
        Check.due("say", new PathWords().say('A'), 1);
    }

    static void p01NoImageIsKept() {
        PathWords x = new PathWords();
        Check.due("count(6)", x.count(6), 0);
        Check.due("restore(0)", x.restore(0), PathWords.STATE);
        Check.due("restore(1)", x.restore(1), PathWords.STATE);
    }

    static void p01Terms2NothingIsKeptOrKnownOrHeard() {
        PathWords x = new PathWords();
        Check.due("kept by all", x.count(2), 0);
        Check.due("sent by all", x.count(3), 0);
        Check.due("crashes of all", x.count(4), 0);
        for (int s = 0; s < 6; s++) {
            Check.due("tallies of " + s, Check.tallies(x, s), "0 0 0 0 0 0 0 0 0 0 0");
            Check.due("written", x.written(s, -1), PathWords.STATE);
            Check.due("last", x.last(s, 0), PathWords.STATE);
            Check.due("trail", x.trail(s, -1), PathWords.STATE);
        }
    }

    static void p01Terms2CallsAreAToF() {
        for (int s = 0; s < 6; s++) {
            PathWords x = new PathWords();
            for (int other = 0; other < 6; other++) {
                Check.type(x, String.valueOf((char) ('A' + s)));
                Check.due("name(" + other + ", 0)", x.name(other, 0), other == s ? 1 : PathWords.STATE);
            }
            Check.type(x, "G");
            Check.due("G is none's", x.name(s, 0), 1);
        }
    }

    static void p01Terms2NoStandInsNoFloods() {
        PathWords x = new PathWords();
        for (int s = 0; s < 6; s++) {
            Check.due("stand-ins", x.forget(s, 1), 0);
            Check.due("floods", x.forget(s, 2), 0);
        }
    }

    static void p01Terms2LimitIs3DelayIs1WindowIs10() {
        PathWords x = new PathWords();
        for (int s = 0; s < 6; s++) {
            Check.due("limit", x.set(s, 0, 5), 3);
            Check.due("delay", x.set(s, 1, 2), 1);
            Check.due("window", x.set(s, 2, 20), 10);
        }
    }

    static void p01TwoObjectsShareNothing() {
        PathWords x = new PathWords();
        Check.type(x, "A>B:a");
        x.send(0);
        x.near(0, 1, 1);
        x.set(0, 0, 7);
        x.image(0);
        x.run(3);
        Check.type(x, "PAD");
        PathWords y = new PathWords();
        for (int what = 0; what <= 6; what++) {
            Check.due("count(" + what + ")", y.count(what), 0);
        }
        Check.due("limit", y.set(0, 0, 7), 3);
        Check.due("the first one's pad", x.count(1), 3);
        Check.due("the first one's now", x.count(0), 3);
    }

    // ---- say

    static void p02SayRefuses32AndBelow() {
        int[] below = {32, 31, 10, 1, 0, -1, -33, -65, -191, Integer.MIN_VALUE + 65, Integer.MIN_VALUE};
        for (int sign : below) {
            PathWords x = new PathWords();
            Check.due("say(" + sign + ")", x.say(sign), PathWords.OUTSIDE);
            Check.due("signs", x.count(1), 0);
        }
    }

    static void p02SayTakes33() {
        Check.due("say(33)", new PathWords().say(33), 1);
    }

    static void p02SayTakes126() {
        Check.due("say(126)", new PathWords().say(126), 1);
    }

    static void p02SayRefuses127AndAbove() {
        int[] above = {127, 128, 160, 256 + 65, 65536 + 65, (1 << 24) + 65, Integer.MAX_VALUE - 1, Integer.MAX_VALUE};
        for (int sign : above) {
            PathWords x = new PathWords();
            Check.due("say(" + sign + ")", x.say(sign), PathWords.OUTSIDE);
            Check.due("signs", x.count(1), 0);
        }
    }

    static void p02SayTakesEachSignBetween() {
        for (int sign = 33; sign <= 126; sign++) {
            Check.due("say(" + sign + ")", new PathWords().say(sign), 1);
        }
    }

    private static PathWords full() {
        PathWords x = new PathWords();
        Check.type(x, FIVE_LONG_WORDS + ":z");
        return x;
    }

    static void p02TheFortiethSignIsTaken() {
        PathWords x = new PathWords();
        Check.type(x, FIVE_LONG_WORDS + ":");
        Check.due("39 signs", x.count(1), 39);
        Check.due("say", x.say('z'), 40);
        Check.due("40 signs", x.count(1), 40);
    }

    static void p02TheFortyFirstSignIsFull() {
        PathWords x = full();
        Check.due("say", x.say('a'), PathWords.FULL);
        Check.due("again", x.say('a'), PathWords.FULL);
        Check.due("signs", x.count(1), 40);
    }

    static void p02OutsideComesAheadOfFull() {
        PathWords x = full();
        for (int sign : Edges.beyond(33, 126)) {
            Check.due("say(" + sign + ")", x.say(sign), PathWords.OUTSIDE);
        }
        Check.due("say(33)", x.say(33), PathWords.FULL);
        Check.due("say(126)", x.say(126), PathWords.FULL);
    }

    static void p02WhatIsRefusedLeavesTheSigns() {
        PathWords x = full();
        x.say('a');
        x.say(127);
        x.near(0, 1, 1);
        Check.due("send", x.send(0), 1);
        x.run(1);
        Check.due("what 1 heard", Check.written(x, 1), FIVE_LONG_WORDS + ":z");
    }

    static void p02SignsRefusedBetweenDoNotStand() {
        PathWords x = new PathWords();
        x.near(0, 1, 1);
        for (char sign : "Q>:q".toCharArray()) {
            x.say(32);
            x.say(sign);
            x.say(127);
        }
        Check.due("send", x.send(0), 1);
        x.run(1);
        Check.due("what 1 heard", Check.written(x, 1), "Q>:q");
    }

    // ---- wipe

    static void p03WipeOfAnEmptyPadIs0() {
        PathWords x = new PathWords();
        Check.due("wipe", x.wipe(), 0);
        Check.due("wipe again", x.wipe(), 0);
    }

    static void p03WipeOfAFullPadIs40() {
        PathWords x = full();
        Check.due("wipe", x.wipe(), 40);
        Check.due("signs", x.count(1), 0);
        Check.due("wipe again", x.wipe(), 0);
        Check.due("say", x.say('a'), 1);
    }

    static void p03WipeOfOneSignIs1() {
        PathWords x = new PathWords();
        x.say('~');
        Check.due("wipe", x.wipe(), 1);
        Check.due("fault of nothing", x.fault(), 0);
    }

    static void p03WhatWasWipedIsNotReadAgain() {
        PathWords x = new PathWords();
        Check.type(x, "A>B:abc");
        x.wipe();
        x.say('C');
        x.say('>');
        Check.due("ends too early", x.fault(), 2);
        x.say(':');
        x.say('z');
        Check.due("a packet", x.fault(), PathWords.NONE);
    }

    // ---- fault

    private static void fault(String text, int due) {
        PathWords x = new PathWords();
        Check.type(x, text);
        Check.due("fault of '" + text + "'", x.fault(), due);
        Check.due("asked again", x.fault(), due);
        Check.due("the pad stays", x.count(1), text.length());
        Check.due("send", x.send(0), due == PathWords.NONE ? 1 : PathWords.FAULT);
    }

    private static void none(String text) {
        fault(text, PathWords.NONE);
    }

    /** The text ends too early: its fault is how many signs it has. */
    private static void early(String text) {
        fault(text, text.length());
    }

    static void p04Terms1EmptyPadIs0() {
        fault("", 0);
    }

    static void p04Terms1TheFirstSignCanNotStand() {
        String[] all = {"a", "1", ">", ":", ",", "-", "*", "@", "[", "!", "~"};
        for (String text : all) {
            fault(text, 0);
            fault(text + "A>:a", 0);
        }
    }

    static void p04Terms1ShortestPacketHasNone() {
        none("A>:a");
        none("Z>:z");
    }

    static void p04Terms1PacketOf40SignsHasNone() {
        none(FIVE_LONG_WORDS + ":z");
        none("AAA>BBB-1*,CCC-2*,DDD-3*,EEE-4*,FFF*:zz");
        none("AAA>BBB-1*,CCC-2*,DDD-3*,EEE-4*,FFF*:zzz");
    }

    static void p04Terms1SourceOfOneToThreeLetters() {
        none("A>:a");
        none("AB>:a");
        none("ABC>:a");
        fault("ABCD>:a", 3);
        fault(">:a", 0);
    }

    static void p04Terms1SourceEndsTooEarly() {
        early("A");
        early("AB");
        early("ABC");
    }

    static void p04Terms1BehindTheSourceMustComeItsSign() {
        fault("A:a", 1);
        fault("A,B:a", 1);
        fault("A*>:a", 1);
        fault("A-1>:a", 1);
        fault("ABCa", 3);
        early("A>");
    }

    static void p04Terms1NoWordsCanStand() {
        none("A>:abcd");
        fault("A>,:a", 2);
        fault("A>*:a", 2);
        fault("A>-1:a", 2);
    }

    static void p04Terms1WordOfOneToThreeLetters() {
        none("A>B:a");
        none("A>BC:a");
        none("A>BCD:a");
        fault("A>BCDE:a", 5);
        early("A>B");
        early("A>BC");
        early("A>BCD");
    }

    static void p04Terms1HopsOf1And7Stand() {
        none("A>B-1:a");
        none("A>B-7:a");
        none("A>BCD-7*:a");
    }

    static void p04Terms1HopsOf0And8CanNotStand() {
        fault("A>B-0:a", 4);
        fault("A>B-8:a", 4);
        fault("A>B-9:a", 4);
        fault("A>B-/:a", 4);
        fault("A>B--1:a", 4);
    }

    static void p04Terms1HopsAreOneFigure() {
        fault("A>B-11:a", 5);
        fault("A>B-7A:a", 5);
        fault("A>B-1-1:a", 5);
    }

    static void p04Terms1EndsBehindTheDashOrTheFigure() {
        early("A>B-");
        early("A>B-7");
        fault("A>B-:a", 4);
        fault("A>B-*:a", 4);
        fault("A>B-,C:a", 4);
    }

    static void p04Terms1SpentOnceAndBehindTheHops() {
        none("A>B*:a");
        none("A>B-2*:a");
        early("A>B*");
        fault("A>B**:a", 4);
        fault("A>B*-2:a", 4);
        fault("A>B*C:a", 4);
    }

    static void p04Terms1CommaStandsBetweenWords() {
        none("A>B,C:a");
        fault("A>B,:a", 4);
        fault("A>B,,C:a", 4);
        early("A>B,");
        early("A>B-3*,");
    }

    static void p04Terms1CommaBehindTheFourthWordStands() {
        early("A>A,A,A,A,");
        none("A>A,A,A,A,A:x");
    }

    static void p04Terms1CommaBehindTheFifthWordCanNotStand() {
        fault("A>A,A,A,A,A,", 11);
        fault("A>A,A,A,A,A,A:x", 11);
        fault("A>A,A,A,A,A*,A:x", 12);
        fault("A>A,A,A,A,A-1,A:x", 13);
        fault("A>A,A,A,A,AAA-1*,A:x", 16);
        fault(FIVE_LONG_WORDS + ",", 38);
    }

    static void p04Terms1BehindTheFifthWordMoreMustCome() {
        early("A>A,A,A,A,A");
        early("A>A,A,A,A,A-7*");
        early(FIVE_LONG_WORDS);
        early(FIVE_LONG_WORDS + ":");
    }

    static void p04Terms1TextOfOneToFourLetters() {
        early("A>:");
        none("A>:a");
        none("A>:ab");
        none("A>:abc");
        none("A>:abcd");
        fault("A>:abcde", 7);
        fault("A>B,C:abcdefgh", 10);
    }

    static void p04Terms1TextIsOfSmallLetters() {
        none("A>:az");
        fault("A>:A", 3);
        fault("A>:aA", 4);
        fault("A>:`", 3);
        fault("A>:{", 3);
        fault("A>:a1", 4);
    }

    static void p04Terms1NothingStandsBehindTheText() {
        fault("A>:a:", 4);
        fault("A>:abcd*", 7);
        fault("A>:abcd,B", 7);
        fault("A>::a", 3);
    }

    static void p04Terms1NamesAreOfGreatLetters() {
        none("Z>AZ:a");
        fault("A@>:a", 1);
        fault("A[>:a", 1);
        fault("Aa>:a", 1);
        fault("A>B@:a", 3);
        fault("A>B[:a", 3);
        fault("A>Bb:a", 3);
        fault("A>b:a", 2);
    }

    static void p04Terms1TheFirstOfSeveralFaultsIsTold() {
        fault("A>B-9,b:9", 4);
        fault("AbCd", 1);
        fault("A>:aB1", 4);
        fault("0123456789", 0);
    }

    static void p04Terms1AFaultComesAheadOfAnEarlyEnd() {
        fault("A>b", 2);
        fault("A>B-8", 4);
        fault("A>,", 2);
    }

    static void p04FortySignsThatCanNotStand() {
        fault("!".repeat(40), 0);
        fault("A".repeat(40), 3);
        fault("A>:" + "a".repeat(37), 7);
        fault("A>" + "B".repeat(38), 5);
    }

    /** Behind each of these beginnings just these signs can stand; "a" stands for a to z, "A" for A to Z. */
    private static final String[][] NEXT = {
        {"", "A"}, {"A", "A>"}, {"AB", "A>"}, {"ABC", ">"}, {"A>", "A:"}, {"A>B", "A-*,:"}, {"A>BC", "A-*,:"},
        {"A>BCD", "-*,:"}, {"A>B-", "1234567"}, {"A>B-3", "*,:"}, {"A>B*", ",:"}, {"A>B-3*", ",:"}, {"A>B,", "A"},
        {"A>B,C", "A-*,:"}, {"A>A,A,A,A", "A-*,:"}, {"A>A,A,A,A,", "A"}, {"A>A,A,A,A,A", "A-*:"},
        {"A>A,A,A,A,AAA", "-*:"}, {"A>A,A,A,A,A-1", "*:"}, {"A>A,A,A,A,A*", ":"}, {"A>:", "a"}, {"A>:a", "a"},
        {"A>:ab", "a"}, {"A>:abc", "a"}, {"A>:abcd", ""}, {"A>B:abcd", ""}, {FIVE_LONG_WORDS, ":"},
        {FIVE_LONG_WORDS + ":", "a"},
    };

    static void p04Terms1EachSignAtEachPlace() {
        for (String[] row : NEXT) {
            for (char sign = 33; sign <= 126; sign++) {
                char kind = sign >= 'A' && sign <= 'Z' ? 'A' : sign >= 'a' && sign <= 'z' ? 'a' : sign;
                int due = row[0].length();
                if (row[1].indexOf(kind) >= 0) {
                    due = kind == 'a' ? PathWords.NONE : due + 1;
                }
                fault(row[0] + sign, due);
            }
        }
    }

    static void p04FaultChangesNothing() {
        PathWords x = new PathWords();
        x.near(0, 1, 1);
        for (char sign : "Q>X-1*,B:q".toCharArray()) {
            x.fault();
            x.say(sign);
        }
        x.fault();
        Check.due("kept", x.count(2), 0);
        Check.due("now", x.count(0), 0);
        Check.due("send", x.send(0), 1);
        x.run(1);
        Check.due("what 1 heard", Check.written(x, 1), "Q>X-1*,B:q");
    }
}
