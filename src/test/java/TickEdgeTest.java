/** The edges of what a TICK does, as part 2 of the terms tells it: seen by run, heard and written. */
public final class TickEdgeTest {
    private TickEdgeTest() {
    }

    public static void main(String[] args) throws ReflectiveOperationException {
        Edges.run(TickEdgeTest.class, 10, 11);
    }

    /** Stations 0 and 1 are near each other. */
    private static PathWords pair() {
        PathWords x = new PathWords();
        x.near(0, 1, 1);
        return x;
    }

    // ---- (a) what is sent

    static void p10Terms2aDueAtThisTickOrBefore() {
        PathWords x = pair();
        Check.send(x, 0, "Q>:a");
        Check.send(x, 0, "Q>:b");
        x.run(1);
        Check.due("due at this tick", Check.written(x, 1), "Q>:a");
        x.run(1);
        Check.due("due before", Check.written(x, 1), "Q>:b");
    }

    static void p10Terms2aOneATick() {
        PathWords x = new PathWords();
        for (int i = 1; i <= 3; i++) {
            Check.send(x, 2, "Q>:a");
        }
        for (int i = 1; i <= 3; i++) {
            Check.due("kept", x.run(1), 3 - i);
            Check.due("sent", x.heard(2, 0), i);
        }
    }

    static void p10Terms2aWhatIsNotDueIsNotSent() {
        PathWords x = pair();
        x.set(1, 1, 3);
        Check.send(x, 0, "Q>B:a");
        Check.due("heard at 0", x.run(1), 1);
        Check.due("not at 1", x.run(1), 1);
        Check.due("not at 2", x.run(1), 1);
        Check.due("at 3", x.run(1), 0);
        Check.due("sent", x.heard(1, 0), 1);
    }

    static void p10Terms2aTheOneKeptLongestThoughDueLater() {
        PathWords x = pair();
        x.set(1, 1, 2);
        Check.send(x, 0, "Q>B:a");
        x.run(1);
        x.set(1, 1, 1);
        Check.send(x, 0, "Q>B:b");
        x.run(1);
        // Both are due at tick 2; then one is due at 2 and one, kept later, at 2 as well.
        Check.send(x, 1, "R>:c");
        String[] due = {"Q>B*:a", "Q>B*:b", "R>:c"};
        for (String packet : due) {
            x.run(1);
            Check.due("sent", Check.written(x, 0), packet);
        }
    }

    static void p10Terms2aAnEarlierDueOneDoesNotGoAheadOfOneKeptLonger() {
        PathWords x = pair();
        x.set(1, 1, 2);
        Check.send(x, 0, "Q>B:a");
        x.run(1);
        // a is due at 2; these are due at 1, and one of them waits till a is due.
        Check.send(x, 1, "R>:b");
        Check.send(x, 1, "R>:c");
        String[] due = {"R>:b", "Q>B*:a", "R>:c"};
        for (String packet : due) {
            x.run(1);
            Check.due("sent", Check.written(x, 0), packet);
        }
    }

    static void p10Terms2aWhatStaysKeepsItsOwnTick() {
        PathWords x = pair();
        x.set(1, 1, 2);
        Check.send(x, 0, "Q>B:a");
        x.run(1);
        x.set(1, 1, 3);
        Check.send(x, 0, "Q>B:b");
        x.run(1);
        // a is due at 2, b at 4.
        Check.due("a goes at 2", x.run(1), 1);
        Check.due("none at 3", x.run(1), 1);
        Check.due("b goes at 4", x.run(1), 0);
        Check.due("heard at", x.last(0, 2), 4);
        Check.due("b", Check.written(x, 0), "Q>B*:b");
    }

    // ---- (b) what is heard

    static void p10Terms2bASenderHearsNothing() {
        PathWords x = pair();
        Check.send(x, 0, "Q>B:a");
        Check.send(x, 1, "R>A:b");
        x.run(1);
        Check.due("0", Check.tallies(x, 0), "1 0 0 0 0 0 0 0 0 0 1");
        Check.due("1", Check.tallies(x, 1), "1 0 0 0 0 0 0 0 0 0 1");
        Check.due("written", x.written(0, -1), PathWords.STATE);
    }

    static void p10Terms2bASenderHasNoCrash() {
        PathWords x = new PathWords();
        Check.join(x, 0, 1, 0, 2, 1, 2);
        for (int s = 0; s < 3; s++) {
            Check.send(x, s, "Q>:a");
        }
        x.run(1);
        Check.due("crashes", x.count(4), 0);
        Check.due("sent", x.count(3), 3);
    }

    static void p10Terms2bJustOneIsHeardAndMoreAreOneCrash() {
        for (int senders = 1; senders <= 5; senders++) {
            PathWords x = new PathWords();
            for (int s = 1; s <= 5; s++) {
                x.near(0, s, 1);
            }
            for (int s = 1; s <= senders; s++) {
                Check.send(x, s, "Q>:a");
            }
            x.run(1);
            Check.due("heard of " + senders, x.heard(0, 1), senders == 1 ? 1 : 0);
            Check.due("crashes of " + senders, x.heard(0, 7), senders == 1 ? 0 : 1);
            Check.due("crashes of all", x.count(4), senders == 1 ? 0 : 1);
            Check.due("knows", x.heard(0, 10), senders == 1 ? 1 : 0);
        }
    }

    static void p10Terms2bSendersThatAreNotNearDoNotCount() {
        PathWords x = new PathWords();
        Check.join(x, 0, 1, 2, 3);
        for (int s = 1; s <= 5; s++) {
            Check.send(x, s, "Q>:" + (char) ('a' + s));
        }
        x.run(1);
        Check.due("heard", Check.written(x, 0), "Q>:b");
        Check.due("crashes", x.count(4), 0);
    }

    static void p10Terms2bEachHearerByItself() {
        PathWords x = new PathWords();
        Check.join(x, 0, 2, 1, 2, 0, 3, 1, 4);
        Check.send(x, 0, "Q>:a");
        Check.send(x, 1, "Q>:b");
        x.run(1);
        Check.due("2 has a crash", x.heard(2, 7), 1);
        Check.due("3", Check.written(x, 3), "Q>:a");
        Check.due("4", Check.written(x, 4), "Q>:b");
        Check.due("5 hears nothing", x.written(5, -1), PathWords.STATE);
        Check.due("crashes", x.count(4), 1);
    }

    static void p10Terms2bACrashIsNotKnown() {
        PathWords x = new PathWords();
        Check.join(x, 0, 1, 1, 2);
        Check.send(x, 0, "Q>B:a");
        Check.send(x, 2, "Q>B:a");
        x.run(1);
        Check.due("knows", x.heard(1, 10), 0);
        Check.send(x, 0, "Q>B:a");
        x.run(1);
        Check.due("repeated", x.heard(1, 5), 1);
    }

    // ---- (c) what is known

    /** Station 1 hears a packet at tick 2 and again so many ticks later: whether it is a double. */
    private static int doubleAfter(int window, int ticks) {
        PathWords x = pair();
        x.set(1, 2, window);
        x.run(2);
        Check.send(x, 0, "Q>:a");
        x.run(Math.min(50, ticks));
        if (ticks > 50) {
            x.run(ticks - 50);
        }
        Check.send(x, 0, "Q>:a");
        x.run(1);
        Check.due("heard", x.heard(1, 1), 2);
        Check.due("a double or an end", x.heard(1, 3) + x.heard(1, 4), 2);
        return x.heard(1, 3);
    }

    static void p10Terms2cWindowOf0() {
        Check.due("1 tick ago", doubleAfter(0, 1), 0);
    }

    static void p10Terms2cWindowOf1() {
        Check.due("1 tick ago", doubleAfter(1, 1), 1);
        Check.due("2 ticks ago", doubleAfter(1, 2), 0);
    }

    static void p10Terms2cWindowOf10() {
        Check.due("9 ticks ago", doubleAfter(10, 9), 1);
        Check.due("10 ticks ago", doubleAfter(10, 10), 1);
        Check.due("11 ticks ago", doubleAfter(10, 11), 0);
    }

    static void p10Terms2cWindowOf60() {
        Check.due("60 ticks ago", doubleAfter(60, 60), 1);
        Check.due("61 ticks ago", doubleAfter(60, 61), 0);
    }

    static void p10Terms2cTheWindowIsAsItIsThen() {
        PathWords x = pair();
        Check.send(x, 0, "Q>:a");
        x.run(20);
        x.set(1, 2, 20);
        Check.send(x, 0, "Q>:a");
        x.run(1);
        Check.due("a double", x.heard(1, 3), 1);
        x.set(1, 2, 19);
        Check.send(x, 0, "Q>:a");
        x.run(1);
        Check.due("none", x.heard(1, 3), 1);
    }

    static void p10Terms2cWhatWentDoesNotComeBack() {
        PathWords x = pair();
        Check.send(x, 0, "Q>:a");
        x.run(11);
        Check.send(x, 0, "Q>:b");
        x.run(1);
        Check.due("a went", x.heard(1, 10), 1);
        x.set(1, 2, 60);
        Check.send(x, 0, "Q>:a");
        x.run(1);
        Check.due("no double", x.heard(1, 3), 0);
    }

    static void p10Terms2cWhatIsTooOldGoesThenTheRestStays() {
        PathWords x = pair();
        for (int i = 0; i < 4; i++) {
            Check.send(x, 0, "Q>:" + (char) ('a' + i));
            x.run(1);
        }
        x.run(8);
        // Tick 12: a and b came 12 and 11 ticks ago, c just 10.
        Check.send(x, 0, "Q>:e");
        x.run(1);
        Check.due("c, d and e", x.heard(1, 10), 3);
    }

    static void p10Terms2cWhatStaysIsKnownByItsSourceTextAndTick() {
        PathWords x = pair();
        Check.send(x, 0, "Q>:a");
        x.run(4);
        Check.send(x, 0, "R>:b");
        x.run(7);
        Check.send(x, 0, "S>:c");
        x.run(1);
        Check.due("Q went", x.heard(1, 10), 2);
        Check.send(x, 0, "Q>:b");
        x.run(1);
        Check.due("another source", x.heard(1, 4), 4);
        Check.send(x, 0, "R>:c");
        x.run(1);
        Check.due("another text", x.heard(1, 4), 5);
        Check.send(x, 0, "R>:b");
        x.run(1);
        Check.due("R came 10 ticks ago", x.heard(1, 3), 1);
        Check.send(x, 0, "R>:b");
        x.run(1);
        Check.due("R came 11 ticks ago", x.heard(1, 3), 1);
    }

    static void p10Terms2cOldOnesGoAsADoubleIsHeard() {
        PathWords x = pair();
        Check.send(x, 0, "Q>:a");
        x.run(6);
        Check.send(x, 0, "Q>:b");
        x.run(6);
        Check.send(x, 0, "Q>:b");
        x.run(1);
        Check.due("a double", x.heard(1, 3), 1);
        Check.due("b alone", x.heard(1, 10), 1);
    }

    static void p10Terms2cOldOnesGoAsItsOwnIsHeard() {
        PathWords x = pair();
        Check.send(x, 0, "Q>:a");
        x.run(11);
        Check.send(x, 0, "B>:b");
        x.run(1);
        Check.due("own", x.heard(1, 2), 1);
        Check.due("none", x.heard(1, 10), 0);
    }

    static void p10Terms2cADoubleIsNotKnownAnew() {
        PathWords x = pair();
        Check.send(x, 0, "Q>:a");
        x.run(10);
        Check.send(x, 0, "Q>:a");
        x.run(1);
        Check.due("a double", x.heard(1, 3), 1);
        Check.send(x, 0, "Q>:a");
        x.run(1);
        Check.due("11 ticks after the first", x.heard(1, 4), 2);
    }

    /** Station 1 hears so many packets of another text each, one a tick. */
    private static PathWords knowing(int many) {
        PathWords x = pair();
        x.set(1, 2, 60);
        for (int i = 0; i < many; i++) {
            Check.send(x, 0, "Q>:" + (char) ('a' + i));
            x.run(1);
            Check.due("knows", x.heard(1, 10), Math.min(16, i + 1));
        }
        return x;
    }

    static void p10Terms2cTheSixteenthIsKnown() {
        PathWords x = knowing(16);
        Check.send(x, 0, "Q>:p");
        x.run(1);
        Check.due("the sixteenth", x.heard(1, 3), 1);
        Check.send(x, 0, "Q>:a");
        x.run(1);
        Check.due("the first", x.heard(1, 3), 2);
    }

    static void p10Terms2cForTheSeventeenthTheFirstGoes() {
        PathWords x = knowing(17);
        Check.send(x, 0, "Q>:q");
        x.run(1);
        Check.due("the seventeenth", x.heard(1, 3), 1);
        Check.send(x, 0, "Q>:b");
        x.run(1);
        Check.due("the second", x.heard(1, 3), 2);
        Check.send(x, 0, "Q>:a");
        x.run(1);
        Check.due("the first is no double", x.heard(1, 3), 2);
        Check.send(x, 0, "Q>:b");
        x.run(1);
        Check.due("the second went for it", x.heard(1, 3), 2);
    }

    static void p10Terms2cBehindTheFirstThatGoesAllKeepTheirTicks() {
        PathWords x = knowing(17);
        // Tick 17: b came at 1, c at 2.
        x.run(42);
        Check.send(x, 0, "Q>:c");
        x.run(1);
        Check.due("c came 57 ticks ago", x.heard(1, 3), 1);
        x.run(1);
        Check.send(x, 0, "Q>:b");
        x.run(1);
        Check.due("b came 60 ticks ago", x.heard(1, 3), 2);
        Check.send(x, 0, "Q>:b");
        x.run(1);
        Check.due("61 ticks ago", x.heard(1, 3), 2);
        Check.due("a went, b came anew", x.heard(1, 10), 16);
    }

    static void p10Terms2cADoubleAndItsOwnPushNoneOut() {
        PathWords x = knowing(16);
        Check.send(x, 0, "Q>:h");
        Check.send(x, 0, "B>:x");
        x.run(2);
        Check.due("knows", x.heard(1, 10), 16);
        Check.send(x, 0, "Q>:a");
        x.run(1);
        Check.due("the first is known still", x.heard(1, 3), 2);
    }

    static void p10Terms2cOldOnesGoAheadOfTheSeventeenth() {
        PathWords x = knowing(16);
        // Tick 16: a and b came 16 and 15 ticks ago.
        x.set(1, 2, 14);
        Check.send(x, 0, "Q>:q");
        x.run(1);
        Check.due("knows", x.heard(1, 10), 15);
        x.set(1, 2, 60);
        Check.send(x, 0, "Q>:c");
        x.run(1);
        Check.due("the third is known", x.heard(1, 3), 1);
    }

    static void p10Terms2cSixteenAreOfWhatItSentToo() {
        PathWords x = pair();
        x.set(1, 2, 60);
        Check.send(x, 1, "S>:s");
        x.run(1);
        for (int i = 0; i < 16; i++) {
            Check.send(x, 0, "Q>:" + (char) ('a' + i));
            x.run(1);
        }
        Check.due("knows", x.heard(1, 10), 16);
        Check.send(x, 0, "S>:s");
        x.run(1);
        Check.due("what it sent went first", x.heard(1, 3), 0);
    }

    // ---- (c) which it is

    /** The tallies of station 1 that hears one packet: OWN, DOUBLE, END, REPEATED, FOREIGN, and what it knows. */
    private static String looked(PathWords x, String packet) {
        int[] before = new int[7];
        for (int what = 2; what <= 6; what++) {
            before[what] = x.heard(1, what);
        }
        int knew = x.heard(1, 10);
        Check.send(x, 0, packet);
        x.run(1);
        StringBuilder text = new StringBuilder();
        for (int what = 2; what <= 6; what++) {
            text.append(x.heard(1, what) - before[what]);
        }
        return text.append(" ").append(x.heard(1, 10) - knew).toString();
    }

    private static final String OWN = "10000 0";
    private static final String DOUBLE = "01000 0";
    private static final String END = "00100 1";
    private static final String REPEATED = "00010 1";
    private static final String FOREIGN = "00001 1";

    static void p11Terms2cOwnIfTheSourceIsItsCall() {
        Check.due("B>:a", looked(pair(), "B>:a"), OWN);
        Check.due("B>B:a", looked(pair(), "B>B:a"), OWN);
        Check.due("BB>:a", looked(pair(), "BB>:a"), END);
        Check.due("AB>:a", looked(pair(), "AB>:a"), END);
    }

    static void p11Terms2cOwnIfASpentWordHasItsCall() {
        Check.due("first", looked(pair(), "Q>B*:a"), OWN);
        Check.due("last", looked(pair(), "Q>C,D,E,F,B*:a"), OWN);
        Check.due("with hops", looked(pair(), "Q>X,B-3*:a"), OWN);
        Check.due("one for it, too", looked(pair(), "Q>B,B*:a"), OWN);
    }

    static void p11Terms2cNotOwnIfTheWordIsNotSpentOrAnother() {
        Check.due("not spent", looked(pair(), "Q>B:a"), REPEATED);
        Check.due("behind another", looked(pair(), "Q>X,B:a"), FOREIGN);
        Check.due("another", looked(pair(), "Q>BB*:a"), END);
    }

    static void p11Terms2cOwnIsByItsCallAsItIsThen() {
        PathWords x = pair();
        Check.call(x, 1, "XYZ");
        Check.due("the old one", looked(x, "B>:a"), END);
        Check.due("the new one", looked(x, "XYZ>:a"), OWN);
        Check.due("a part of it", looked(x, "XY>:a"), END);
        Check.due("spent", looked(x, "Q>XYZ*:b"), OWN);
    }

    static void p11Terms2cStandInsAndFloodsDoNotMakeItOwn() {
        PathWords x = pair();
        Check.standIn(x, 1, "S");
        Check.flood(x, 1, "W");
        Check.due("source", looked(x, "S>:a"), END);
        Check.due("source", looked(x, "W>:a"), END);
        Check.due("spent", looked(x, "Q>S*,W-2*:a"), END);
    }

    static void p11Terms2cOwnComesAheadOfDouble() {
        PathWords x = pair();
        Check.due("known", looked(x, "Q>:a"), END);
        Check.due("own", looked(x, "Q>B*:a"), OWN);
        Check.call(x, 1, "Q");
        Check.due("own", looked(x, "Q>:a"), OWN);
    }

    static void p11Terms2cDoubleComesAheadOfTheRest() {
        PathWords x = pair();
        Check.due("known", looked(x, "Q>X:a"), FOREIGN);
        Check.due("an end", looked(x, "Q>:a"), DOUBLE);
        Check.due("for it", looked(x, "Q>B:a"), DOUBLE);
        Check.due("foreign", looked(x, "Q>X:a"), DOUBLE);
    }

    static void p11Terms2cDoubleIsBySourceAndText() {
        PathWords x = pair();
        Check.due("known", looked(x, "QA>:ab"), END);
        Check.due("both", looked(x, "QA>X:ab"), DOUBLE);
        Check.due("another source", looked(x, "Q>:ab"), END);
        Check.due("another source", looked(x, "AQ>:ab"), END);
        Check.due("another text", looked(x, "QA>:a"), END);
        Check.due("another text", looked(x, "QA>:ba"), END);
        Check.due("another text", looked(x, "QA>:abab"), END);
    }

    static void p11Terms2cWhatItSentIsADouble() {
        PathWords x = pair();
        Check.send(x, 1, "Q>:a");
        x.run(1);
        Check.due("double", looked(x, "Q>B:a"), DOUBLE);
    }

    static void p11Terms2cEndIfAllWordsAreSpentOrThereAreNone() {
        Check.due("none", looked(pair(), "Q>:a"), END);
        Check.due("one", looked(pair(), "Q>X*:a"), END);
        Check.due("with hops", looked(pair(), "Q>X-7*:a"), END);
        Check.due("five", looked(pair(), "Q>C*,D*,E*,F*,G*:a"), END);
        Check.due("all but the last", looked(pair(), "Q>C*,D*,E*,F*,G:a"), FOREIGN);
        Check.due("all but the first", looked(pair(), "Q>C,D*,E*,F*,G*:a"), FOREIGN);
    }

    static void p11Terms2cOnlyTheFirstThatIsNotSpentCounts() {
        Check.due("the first", looked(pair(), "Q>B,X:a"), REPEATED);
        Check.due("behind spent ones", looked(pair(), "Q>C*,D-2*,E*,F*,B:a"), REPEATED);
        Check.due("the second", looked(pair(), "Q>X,B:a"), FOREIGN);
    }

    // ---- (c) for whom it is

    /** What station 1 makes of a packet. */
    private static String repeat(PathWords x, String packet) {
        int heard = x.heard(0, 1);
        x.set(0, 2, 0);
        x.set(1, 2, 0);
        Check.send(x, 0, packet);
        x.run(4);
        return x.heard(0, 1) == heard ? "" : Check.written(x, 0);
    }

    static void p10Terms2cItsCallIsSpentWithoutHops() {
        Check.due("no hops", repeat(pair(), "Q>B:a"), "Q>B*:a");
        Check.due("one", repeat(pair(), "Q>B-1:a"), "Q>B*:a");
        Check.due("seven", repeat(pair(), "Q>B-7:a"), "Q>B*:a");
        Check.due("others stay", repeat(pair(), "Q>X-1*,B-7,B,Y-2*,Z-3:a"), "Q>X-1*,B*,B,Y-2*,Z-3:a");
    }

    static void p10Terms2cItsCallComesAheadOfStandInAndFlood() {
        PathWords x = pair();
        Check.standIn(x, 1, "B");
        Check.flood(x, 1, "B");
        Check.due("flood", repeat(x, "Q>B-3:a"), "Q>B*:a");
        Check.due("stand-in", repeat(x, "Q>B:a"), "Q>B*:a");
    }

    static void p10Terms2cAStandInWithoutHops() {
        PathWords x = pair();
        Check.standIn(x, 1, "S");
        Check.type(x, "TUV");
        Check.due("second", x.name(1, 1), 2);
        Check.due("the first", repeat(x, "Q>S:a"), "Q>B*:a");
        Check.due("the second", repeat(x, "Q>TUV,S:a"), "Q>B*,S:a");
        Check.due("with one hop", repeat(x, "Q>S-1:a"), "");
        Check.due("with seven", repeat(x, "Q>TUV-7:a"), "");
        Check.due("a part of it", repeat(x, "Q>TU:a"), "");
        Check.due("of another station", repeat(x, "Q>C:a"), "");
    }

    static void p10Terms2cAFloodWithHops() {
        PathWords x = pair();
        Check.flood(x, 1, "W");
        Check.type(x, "VVV");
        Check.due("second", x.name(1, 2), 2);
        Check.due("the first", repeat(x, "Q>W-2:a"), "Q>B*,W-1:a");
        Check.due("the second", repeat(x, "Q>VVV-2:a"), "Q>B*,VVV-1:a");
        Check.due("without hops", repeat(x, "Q>W:a"), "");
        Check.due("a part of it", repeat(x, "Q>VV-2:a"), "");
    }

    static void p10Terms2cStandInAndFloodOfOneName() {
        PathWords x = pair();
        Check.standIn(x, 1, "W");
        Check.flood(x, 1, "W");
        Check.due("without hops", repeat(x, "Q>W:a"), "Q>B*:a");
        Check.due("with hops", repeat(x, "Q>W-2:a"), "Q>B*,W-1:a");
        Check.due("with one", repeat(x, "Q>W-1:a"), "Q>B*:a");
    }

    static void p10Terms2cOneHopIsSpent() {
        PathWords x = pair();
        Check.flood(x, 1, "W");
        Check.due("one", repeat(x, "Q>W-1:a"), "Q>B*:a");
        Check.due("others stay", repeat(x, "Q>X-3*,W-1,W-1:a"), "Q>X-3*,B*,W-1:a");
        Check.due("two", repeat(x, "Q>W-2:a"), "Q>B*,W-1:a");
    }

    static void p10Terms2cHopsAreHeldToEachLimit() {
        for (int limit = 1; limit <= 7; limit++) {
            PathWords x = pair();
            Check.flood(x, 1, "W");
            x.set(1, 0, limit);
            for (int hops = 1; hops <= 7; hops++) {
                int left = Math.min(hops, limit) - 1;
                String due = left == 0 ? "Q>B*:a" : "Q>B*,W-" + left + ":a";
                Check.due("limit " + limit + ", hops " + hops, repeat(x, "Q>W-" + hops + ":a"), due);
            }
        }
    }

    static void p10Terms2cTheLimitIs3AtFirst() {
        PathWords x = pair();
        Check.flood(x, 1, "W");
        Check.due("two", repeat(x, "Q>W-2:a"), "Q>B*,W-1:a");
        Check.due("three", repeat(x, "Q>W-3:a"), "Q>B*,W-2:a");
        Check.due("four", repeat(x, "Q>W-4:a"), "Q>B*,W-2:a");
    }

    static void p10Terms2cAWordComesRightAheadOfW() {
        PathWords x = pair();
        Check.flood(x, 1, "W");
        Check.due("first", repeat(x, "Q>W-3,X,Y*:a"), "Q>B*,W-2,X,Y*:a");
        Check.due("between", repeat(x, "Q>X*,Y-2*,W-3,W-3,Z*:a"), "Q>X*,Y-2*,B*,W-2,W-3,Z*:a");
        Check.due("last", repeat(x, "Q>V*,X*,Y*,Z*,W-3:a"), "Q>V*,X*,Y*,Z*,B*,W-2:a");
    }

    /** 0 - 1 - 2 - 3 - 4 - 5, each with the flood W and limit 7; station 0 sends a packet of five words. */
    private static PathWords chain() {
        PathWords x = new PathWords();
        for (int s = 1; s < 6; s++) {
            x.near(s - 1, s, 1);
            Check.flood(x, s, "W");
            x.set(s, 0, 7);
        }
        Check.send(x, 0, "A>X*,X*,X*,X*,W-7:a");
        return x;
    }

    static void p10Terms2cWithSevenWordsOneComesAhead() {
        PathWords x = chain();
        x.run(3);
        Check.due("seven", Check.written(x, 3), "A>X*,X*,X*,X*,B*,C*,W-5:a");
        Check.due("words", x.last(3, 0), 7);
        x.run(1);
        Check.due("eight", Check.written(x, 4), "A>X*,X*,X*,X*,B*,C*,D*,W-4:a");
        Check.due("words", x.last(4, 0), 8);
    }

    static void p10Terms2cWithEightWordsNoneComesAhead() {
        PathWords x = chain();
        x.run(5);
        Check.due("one hop less", Check.written(x, 5), "A>X*,X*,X*,X*,B*,C*,D*,W-3:a");
        Check.due("words", x.last(5, 0), 8);
        Check.due("it is repeated", x.heard(4, 5), 1);
    }

    static void p10Terms2cWithEightWordsHopsAreHeldToTheLimit() {
        PathWords x = chain();
        x.set(4, 0, 2);
        x.run(5);
        Check.due("held to two", Check.written(x, 5), "A>X*,X*,X*,X*,B*,C*,D*,W-1:a");
    }

    static void p10Terms2cWithEightWordsTheLastHopIsSpent() {
        PathWords x = chain();
        x.set(4, 0, 1);
        x.run(5);
        Check.due("held to one", Check.written(x, 5), "A>X*,X*,X*,X*,B*,C*,D*,E*:a");
        Check.due("an end", x.heard(5, 4), 1);
    }

    static void p10Terms2cWithEightWordsItIsNotItsOwnLater() {
        PathWords x = chain();
        x.run(6);
        Check.due("4 hears it again", Check.written(x, 4), "A>X*,X*,X*,X*,B*,C*,D*,W-2:a");
        Check.due("a double", x.heard(4, 3), 1);
        Check.due("not its own", x.heard(4, 2), 0);
    }

    static void p10Terms2cWithEightWordsAndNoWindowItGoesToAndFro() {
        PathWords x = chain();
        x.set(4, 2, 0);
        x.set(5, 2, 0);
        Check.due("nothing is kept at last", x.run(20), 0);
        Check.due("4", Check.tallies(x, 4), "2 3 0 0 1 2 0 0 0 0 1");
        Check.due("5", Check.tallies(x, 5), "2 2 0 0 0 2 0 0 0 0 1");
        Check.due("the last of 4", Check.written(x, 4), "A>X*,X*,X*,X*,B*,C*,D*,F*:a");
        Check.due("3 hears its own", x.heard(3, 2), 2);
    }

    // ---- what is repeated

    static void p10Terms2DueDelayTicksLater() {
        for (int delay = 1; delay <= 3; delay++) {
            PathWords x = pair();
            x.set(1, 1, delay);
            x.run(5);
            Check.send(x, 0, "A>B:a");
            for (int i = 0; i < delay; i++) {
                Check.due("kept", x.run(1), 1);
            }
            Check.due("sent", x.run(1), 0);
            Check.due("heard at", x.last(0, 2), 5 + delay);
        }
    }

    static void p10Terms2TheDelayIs1AtFirst() {
        PathWords x = pair();
        Check.send(x, 0, "A>B:a");
        x.run(2);
        Check.due("heard at", x.last(0, 2), 1);
    }

    static void p10Terms2TheDelayIsAsItWasWhenItWasHeard() {
        PathWords x = pair();
        x.set(1, 1, 2);
        Check.send(x, 0, "A>B:a");
        x.run(1);
        x.set(1, 1, 3);
        Check.due("kept", x.run(1), 1);
        Check.due("sent", x.run(1), 0);
    }

    static void p10Terms2ItSendsWhatItMadeWithTheCallOfThen() {
        PathWords x = pair();
        Check.send(x, 0, "A>B:a");
        x.run(1);
        Check.call(x, 1, "X");
        x.run(1);
        Check.due("written", Check.written(x, 0), "A>B*:a");
    }

    static void p11Terms2HeardButNotRepeatedIsNotKept() {
        PathWords x = pair();
        Check.send(x, 0, "Q>:a");
        Check.send(x, 0, "Q>X:b");
        Check.send(x, 0, "B>B:c");
        Check.send(x, 0, "Q>B:b");
        x.run(4);
        Check.due("tallies", Check.tallies(x, 1), "0 4 1 1 1 0 1 0 0 0 2");
    }
}
