/** The edges of promises 5 to 8, and of the STATIONS in part 2 of the terms: name, forget, set, near. */
public final class StationEdgeTest {
    private StationEdgeTest() {
    }

    public static void main(String[] args) throws ReflectiveOperationException {
        Edges.run(StationEdgeTest.class, 5, 8);
    }

    private static int name(PathWords x, int s, int what, String text) {
        Check.type(x, text);
        return x.name(s, what);
    }

    // ---- name

    static void p05Terms2NoStationBelow0OrAbove5() {
        for (int s : Edges.noStations()) {
            for (int what = 0; what <= 2; what++) {
                PathWords x = new PathWords();
                Check.due("name(" + s + ", " + what + ")", name(x, s, what, "G"), PathWords.UNKNOWN);
                Check.due("the pad stays", x.count(1), 1);
            }
        }
    }

    static void p05Stations0And5AreNamed() {
        for (int what = 0; what <= 2; what++) {
            PathWords x = new PathWords();
            Check.due("name(0, " + what + ")", name(x, 0, what, "G"), 1);
            Check.due("name(5, " + what + ")", name(x, 5, what, "H"), 1);
        }
    }

    static void p05WhatBelow0OrAbove2IsOutside() {
        for (int what : Edges.beyond(0, 2)) {
            PathWords x = new PathWords();
            Check.due("name(0, " + what + ")", name(x, 0, what, "G"), PathWords.OUTSIDE);
            Check.due("the pad stays", x.count(1), 1);
        }
    }

    static void p05Terms1NamesOfOneAndThreeLettersAreTaken() {
        String[] good = {"Z", "G", "GH", "GHI", "ZZZ", "AAA"};
        for (String text : good) {
            for (int what = 0; what <= 2; what++) {
                PathWords x = new PathWords();
                Check.due("name(3, " + what + ") " + text, name(x, 3, what, text), 1);
                Check.due("the pad is empty then", x.count(1), 0);
            }
        }
    }

    static void p05AnEmptyPadIsAFault() {
        for (int what = 0; what <= 2; what++) {
            Check.due("name(0, " + what + ")", new PathWords().name(0, what), PathWords.FAULT);
        }
    }

    static void p05Terms1FourLettersAreAFault() {
        for (int what = 0; what <= 2; what++) {
            PathWords x = new PathWords();
            Check.due("name(0, " + what + ")", name(x, 0, what, "GHIJ"), PathWords.FAULT);
            Check.due("the pad stays", x.count(1), 4);
            Check.due("forty signs", name(x, 0, what, "G".repeat(40)), PathWords.FAULT);
            Check.due("the pad stays", x.count(1), 40);
        }
    }

    static void p05Terms1OtherSignsAreAFault() {
        String[] bad = {"g", "@", "[", "G@", "G[", "Gg", "G1", "1G", "G*", "G-1", "G>", "G,H", ":", "GHi", "A>:a"};
        for (String text : bad) {
            for (int what = 0; what <= 2; what++) {
                PathWords x = new PathWords();
                Check.due("name(0, " + what + ") " + text, name(x, 0, what, text), PathWords.FAULT);
                Check.due("the pad stays", x.count(1), text.length());
            }
        }
    }

    static void p05TheSecondStandInIsTakenAndTheThirdIsFull() {
        thirdIsFull(1);
    }

    static void p05TheSecondFloodIsTakenAndTheThirdIsFull() {
        thirdIsFull(2);
    }

    private static void thirdIsFull(int what) {
        PathWords x = new PathWords();
        Check.due("first", name(x, 2, what, "GA"), 1);
        Check.due("second", name(x, 2, what, "GB"), 2);
        Check.due("third", name(x, 2, what, "GC"), PathWords.FULL);
        Check.due("the pad stays", x.count(1), 2);
        Check.due("again", x.name(2, what), PathWords.FULL);
        Check.due("of the other kind", x.name(2, 3 - what), 1);
        Check.due("of another station", name(x, 3, what, "GC"), 1);
        Check.due("a call is never full", name(x, 2, 0, "GC"), 1);
        Check.due("it has two", x.forget(2, what), 2);
        Check.due("room again", name(x, 2, what, "GC"), 1);
    }

    static void p05OneNameTwiceIsTwo() {
        for (int what = 1; what <= 2; what++) {
            PathWords x = new PathWords();
            Check.due("first", name(x, 4, what, "W"), 1);
            Check.due("the same", name(x, 4, what, "W"), 2);
            Check.due("third", name(x, 4, what, "W"), PathWords.FULL);
            Check.due("had", x.forget(4, what), 2);
        }
    }

    static void p05AnothersCallIsState() {
        for (int s = 0; s < 6; s++) {
            for (int other = 0; other < 6; other++) {
                PathWords x = new PathWords();
                String call = String.valueOf((char) ('A' + other));
                Check.due("name(" + s + ", 0) " + call, name(x, s, 0, call), s == other ? 1 : PathWords.STATE);
                Check.due("the pad", x.count(1), s == other ? 0 : 1);
            }
        }
    }

    static void p05AnothersCallCanBeStandInAndFlood() {
        PathWords x = new PathWords();
        Check.due("stand-in", name(x, 0, 1, "B"), 1);
        Check.due("flood", name(x, 0, 2, "B"), 1);
        Check.due("its own", name(x, 0, 1, "A"), 2);
        Check.due("its own", name(x, 0, 2, "A"), 2);
    }

    static void p05AStandInOrFloodCanBeACall() {
        PathWords x = new PathWords();
        name(x, 0, 1, "G");
        name(x, 0, 2, "H");
        Check.due("G", name(x, 1, 0, "G"), 1);
        Check.due("H", name(x, 2, 0, "H"), 1);
        Check.due("G is taken", name(x, 0, 0, "G"), PathWords.STATE);
    }

    static void p05ACallLetGoCanBeTaken() {
        PathWords x = new PathWords();
        Check.due("A goes", name(x, 0, 0, "G"), 1);
        Check.due("A is free", name(x, 5, 0, "A"), 1);
        Check.due("A is taken", name(x, 0, 0, "A"), PathWords.STATE);
        Check.due("F is free", name(x, 0, 0, "F"), 1);
    }

    static void p05ACallIsComparedWhole() {
        PathWords x = new PathWords();
        Check.due("AB", name(x, 1, 0, "AB"), 1);
        Check.due("BA", name(x, 2, 0, "BA"), 1);
        Check.due("ABA", name(x, 3, 0, "ABA"), 1);
        Check.due("AA", name(x, 4, 0, "AA"), 1);
        Check.due("AAA", name(x, 5, 0, "AAA"), 1);
        Check.due("AB is taken", name(x, 0, 0, "AB"), PathWords.STATE);
        Check.due("AAA is taken", name(x, 0, 0, "AAA"), PathWords.STATE);
    }

    static void p05AFaultComesAheadOfFull() {
        for (int what = 1; what <= 2; what++) {
            PathWords x = new PathWords();
            name(x, 0, what, "G");
            name(x, 0, what, "H");
            Check.due("a fault", name(x, 0, what, "g"), PathWords.FAULT);
            Check.due("of an empty pad", name(x, 0, what, ""), PathWords.FAULT);
        }
    }

    static void p05UnknownThenOutsideThenFault() {
        for (int s : Edges.noStations()) {
            PathWords x = new PathWords();
            Check.due("all are wrong", name(x, s, 3, "g"), PathWords.UNKNOWN);
            Check.due("all are wrong", name(x, s, -1, ""), PathWords.UNKNOWN);
            Check.due("another's call", name(x, s, 0, "A"), PathWords.UNKNOWN);
        }
        for (int what : Edges.beyond(0, 2)) {
            PathWords x = new PathWords();
            Check.due("outside and a fault", name(x, 0, what, "g"), PathWords.OUTSIDE);
            Check.due("outside and another's call", name(x, 0, what, "B"), PathWords.OUTSIDE);
        }
    }

    // ---- forget

    static void p06NoStationBelow0OrAbove5() {
        for (int s : Edges.noStations()) {
            for (int what = 0; what <= 3; what++) {
                Check.due("forget(" + s + ", " + what + ")", new PathWords().forget(s, what), PathWords.UNKNOWN);
            }
        }
    }

    static void p06WhatBelow1OrAbove2IsOutside() {
        for (int what : Edges.beyond(1, 2)) {
            PathWords x = new PathWords();
            name(x, 0, 1, "S");
            name(x, 0, 2, "W");
            Check.due("forget(0, " + what + ")", x.forget(0, what), PathWords.OUTSIDE);
            Check.due("stand-ins stay", x.forget(0, 1), 1);
            Check.due("floods stay", x.forget(0, 2), 1);
        }
    }

    static void p06OfNoneOfOneAndOfTwo() {
        for (int s = 0; s < 6; s++) {
            for (int what = 1; what <= 2; what++) {
                PathWords x = new PathWords();
                Check.due("none", x.forget(s, what), 0);
                name(x, s, what, "G");
                Check.due("one", x.forget(s, what), 1);
                name(x, s, what, "G");
                name(x, s, what, "H");
                Check.due("two", x.forget(s, what), 2);
                Check.due("none again", x.forget(s, what), 0);
                Check.due("room", name(x, s, what, "I"), 1);
            }
        }
    }

    static void p06TheOtherKindAndOtherStationsStay() {
        for (int what = 1; what <= 2; what++) {
            PathWords x = new PathWords();
            for (int s = 0; s < 6; s++) {
                name(x, s, 1, "S");
                name(x, s, 2, "W");
            }
            Check.type(x, "PAD");
            Check.due("forget", x.forget(3, what), 1);
            Check.due("the other kind", x.forget(3, 3 - what), 1);
            Check.due("the one before", x.forget(2, what), 1);
            Check.due("the one behind", x.forget(4, what), 1);
            Check.due("the pad stays", x.count(1), 3);
        }
    }

    static void p06WhatIsForgottenIsNotMeantAnyMore() {
        PathWords x = new PathWords();
        x.near(0, 1, 1);
        name(x, 1, 1, "S");
        name(x, 1, 2, "W");
        x.forget(1, 1);
        Check.send(x, 0, "A>S:a");
        Check.send(x, 0, "A>W-2:b");
        x.run(2);
        Check.due("foreign", x.heard(1, 6), 1);
        Check.due("repeated", x.heard(1, 5), 1);
        x.run(5);
        x.forget(1, 2);
        Check.send(x, 0, "A>W-2:c");
        x.run(1);
        Check.due("foreign", x.heard(1, 6), 2);
    }

    // ---- set

    private static final int[] LEAST = {1, 1, 0};
    private static final int[] GREATEST = {7, 3, 60};
    private static final int[] FIRST = {3, 1, 10};

    static void p07NoStationBelow0OrAbove5() {
        for (int s : Edges.noStations()) {
            for (int what = -1; what <= 3; what++) {
                Check.due("set(" + s + ", " + what + ", 1)", new PathWords().set(s, what, 1), PathWords.UNKNOWN);
            }
            Check.due("all are wrong", new PathWords().set(s, 3, 99), PathWords.UNKNOWN);
        }
    }

    static void p07WhatBelow0OrAbove2IsOutside() {
        for (int what : Edges.beyond(0, 2)) {
            PathWords x = new PathWords();
            Check.due("set(0, " + what + ", 1)", x.set(0, what, 1), PathWords.OUTSIDE);
            unchanged(x, 0);
        }
    }

    private static void unchanged(PathWords x, int s) {
        for (int what = 0; what <= 2; what++) {
            Check.due("set(" + s + ", " + what + ") stays", x.set(s, what, FIRST[what]), FIRST[what]);
        }
    }

    static void p07Terms2LeastAndGreatestLimit() {
        leastAndGreatest(0);
    }

    static void p07Terms2LeastAndGreatestDelay() {
        leastAndGreatest(1);
    }

    static void p07Terms2LeastAndGreatestWindow() {
        leastAndGreatest(2);
    }

    private static void leastAndGreatest(int what) {
        for (int s = 0; s < 6; s++) {
            PathWords x = new PathWords();
            Check.due("least", x.set(s, what, LEAST[what]), FIRST[what]);
            Check.due("greatest", x.set(s, what, GREATEST[what]), LEAST[what]);
            Check.due("first", x.set(s, what, FIRST[what]), GREATEST[what]);
            Check.due("the same", x.set(s, what, FIRST[what]), FIRST[what]);
        }
    }

    static void p07Terms2ALimitOf0Or8IsOutside() {
        oneBeyond(0);
    }

    static void p07Terms2ADelayOf0Or4IsOutside() {
        oneBeyond(1);
    }

    static void p07Terms2AWindowOfMinus1Or61IsOutside() {
        oneBeyond(2);
    }

    private static void oneBeyond(int what) {
        for (int n : Edges.beyond(LEAST[what], GREATEST[what])) {
            PathWords x = new PathWords();
            Check.due("set(4, " + what + ", " + n + ")", x.set(4, what, n), PathWords.OUTSIDE);
            unchanged(x, 4);
        }
    }

    static void p07EachNumberBetweenIsTaken() {
        for (int what = 0; what <= 2; what++) {
            PathWords x = new PathWords();
            int was = FIRST[what];
            for (int n = LEAST[what]; n <= GREATEST[what]; n++) {
                Check.due("set(1, " + what + ", " + n + ")", x.set(1, what, n), was);
                was = n;
            }
        }
    }

    static void p07OneSettingOfOneStationAlone() {
        for (int what = 0; what <= 2; what++) {
            PathWords x = new PathWords();
            x.set(3, what, 2);
            for (int other = 0; other <= 2; other++) {
                Check.due("the same station", x.set(3, other, 2), other == what ? 2 : FIRST[other]);
            }
            unchanged(x, 2);
            unchanged(x, 4);
        }
    }

    // ---- near

    static void p08NoStationBelow0OrAbove5() {
        for (int s : Edges.noStations()) {
            PathWords x = new PathWords();
            for (int is = -1; is <= 2; is++) {
                Check.due("near(" + s + ", 0, " + is + ")", x.near(s, 0, is), PathWords.UNKNOWN);
                Check.due("near(5, " + s + ", " + is + ")", x.near(5, s, is), PathWords.UNKNOWN);
                Check.due("near(" + s + ", " + s + ", " + is + ")", x.near(s, s, is), PathWords.UNKNOWN);
            }
            Check.due("pairs", x.count(5), 0);
        }
    }

    static void p08TwoNumbersOfOneStationAreOutside() {
        for (int s = 0; s < 6; s++) {
            PathWords x = new PathWords();
            x.near(s, (s + 1) % 6, 1);
            Check.due("near(" + s + ", " + s + ", 1)", x.near(s, s, 1), PathWords.OUTSIDE);
            Check.due("near(" + s + ", " + s + ", 0)", x.near(s, s, 0), PathWords.OUTSIDE);
            Check.due("pairs", x.count(5), 1);
        }
    }

    static void p08IsBelow0OrAbove1IsOutside() {
        for (int is : Edges.beyond(0, 1)) {
            PathWords x = new PathWords();
            x.near(2, 3, 1);
            Check.due("near(0, 1, " + is + ")", x.near(0, 1, is), PathWords.OUTSIDE);
            Check.due("near(2, 3, " + is + ")", x.near(2, 3, is), PathWords.OUTSIDE);
            Check.due("near(1, 1, " + is + ")", x.near(1, 1, is), PathWords.OUTSIDE);
            Check.due("pairs", x.count(5), 1);
        }
    }

    static void p08NearTwiceIsNearOnce() {
        PathWords x = new PathWords();
        Check.due("near", x.near(0, 5, 1), 1);
        Check.due("again", x.near(0, 5, 1), 1);
        Check.due("the other way", x.near(5, 0, 1), 1);
        Check.due("pairs", x.count(5), 1);
        Check.due("no more", x.near(5, 0, 0), 0);
        Check.due("no more again", x.near(0, 5, 0), 0);
        Check.due("pairs", x.count(5), 0);
    }

    static void p08ToldIsHowManyAreNearTheFirst() {
        PathWords x = new PathWords();
        for (int other = 1; other < 6; other++) {
            Check.due("near(0, " + other + ", 1)", x.near(0, other, 1), other);
        }
        Check.due("the other one has one", x.near(5, 0, 1), 1);
        Check.due("two", x.near(5, 4, 1), 2);
        Check.due("of the first, of a pair that is not", x.near(3, 2, 0), 1);
        for (int other = 1; other < 6; other++) {
            Check.due("near(0, " + other + ", 0)", x.near(0, other, 0), 5 - other);
        }
        Check.due("5 and 4 stay", x.count(5), 1);
    }

    static void p08AllFifteenPairs() {
        PathWords x = new PathWords();
        int pairs = 0;
        for (int one = 0; one < 6; one++) {
            for (int other = one + 1; other < 6; other++) {
                x.near(one, other, 1);
                pairs++;
                Check.due("pairs", x.count(5), pairs);
            }
        }
        for (int s = 0; s < 6; s++) {
            Check.due("five are near", x.near(s, (s + 1) % 6, 1), 5);
        }
        Check.due("pairs", x.count(5), 15);
    }

    static void p08EachPairHearsEachOtherAlone() {
        for (int one = 0; one < 6; one++) {
            for (int other = 0; other < 6; other++) {
                if (one == other) {
                    continue;
                }
                PathWords x = new PathWords();
                x.near(one, other, 1);
                Check.send(x, other, "Q>:q");
                x.run(1);
                for (int s = 0; s < 6; s++) {
                    Check.due("heard by " + s, x.heard(s, 1), s == one ? 1 : 0);
                }
            }
        }
    }

    static void p08NotNearAnyMoreIsNotHeard() {
        PathWords x = new PathWords();
        x.near(0, 1, 1);
        x.near(0, 2, 1);
        x.near(1, 0, 0);
        Check.send(x, 0, "Q>:q");
        x.run(1);
        Check.due("1", x.heard(1, 1), 0);
        Check.due("2", x.heard(2, 1), 1);
    }
}
