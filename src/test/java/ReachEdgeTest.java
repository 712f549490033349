/** The edges of promises 15 to 17, and of part 3 of the terms: reach, fewest, bridges. */
public final class ReachEdgeTest {
    private static final String[] NO_NAMES = {
        "", "w", "WXYZ", "W-1", "W*", "1", "@", "[", "WXy", "A>W-1:a", "W".repeat(40),
    };

    private ReachEdgeTest() {
    }

    public static void main(String[] args) throws ReflectiveOperationException {
        Edges.run(ReachEdgeTest.class, 15, 17);
    }

    /** 0 - 1 - 2 - 3 - 4 - 5, each with the flood W and limit 7; W is on the pad. */
    private static PathWords chain() {
        PathWords x = new PathWords();
        for (int s = 0; s < 6; s++) {
            if (s > 0) {
                x.near(s - 1, s, 1);
            }
            Check.flood(x, s, "W");
            x.set(s, 0, 7);
        }
        Check.type(x, "W");
        return x;
    }

    private static void reach(PathWords x, int s, int n, int set, int tick, int sent, int crashes) {
        int[] due = {set, tick, sent, crashes};
        for (int what = 0; what <= 3; what++) {
            Check.due("reach(" + s + ", " + n + ", " + what + ")", x.reach(s, n, what), due[what]);
        }
    }

    // ---- reach

    static void p15NoStationBelow0OrAbove5() {
        for (int s : Edges.noStations()) {
            PathWords x = chain();
            Check.due("reach(" + s + ", 1, 0)", x.reach(s, 1, 0), PathWords.UNKNOWN);
            Check.due("ahead of outside", x.reach(s, 0, 4), PathWords.UNKNOWN);
            Check.due("ahead of a fault", new PathWords().reach(s, 1, 0), PathWords.UNKNOWN);
        }
    }

    static void p15OneHopAndSevenAreTaken() {
        PathWords x = chain();
        Check.due("reach(0, 1, 0)", x.reach(0, 1, 0), 0b111);
        Check.due("reach(0, 7, 0)", x.reach(0, 7, 0), 0b111111);
    }

    static void p15NoHopAndEightAreOutside() {
        for (int n : Edges.beyond(1, 7)) {
            for (int what = 0; what <= 3; what++) {
                Check.due("reach(0, " + n + ", " + what + ")", chain().reach(0, n, what), PathWords.OUTSIDE);
            }
            Check.due("ahead of a fault", new PathWords().reach(0, n, 0), PathWords.OUTSIDE);
        }
    }

    static void p15WhatBelow0OrAbove3IsOutside() {
        for (int what : Edges.beyond(0, 3)) {
            Check.due("reach(0, 1, " + what + ")", chain().reach(0, 1, what), PathWords.OUTSIDE);
            Check.due("ahead of a fault", new PathWords().reach(5, 7, what), PathWords.OUTSIDE);
        }
    }

    static void p15NoNameIsAFault() {
        for (String text : NO_NAMES) {
            PathWords x = chain();
            Check.type(x, text);
            for (int what = 0; what <= 3; what++) {
                Check.due("reach by '" + text + "'", x.reach(0, 1, what), PathWords.FAULT);
            }
            Check.due("the pad stays", x.count(1), text.length());
        }
    }

    static void p15ThePadStays() {
        PathWords x = chain();
        Check.flood(x, 1, "XYZ");
        Check.type(x, "XYZ");
        Check.due("reach", x.reach(0, 2, 0), 0b111);
        Check.due("signs", x.count(1), 3);
        Check.due("again", x.reach(0, 2, 0), 0b111);
        Check.due("it is a name still", x.name(4, 0), 1);
        Check.type(x, "XYZ");
        Check.due("and was that name", x.name(3, 0), PathWords.STATE);
    }

    static void p15NoneHeardIt() {
        PathWords x = new PathWords();
        Check.type(x, "W");
        for (int s = 0; s < 6; s++) {
            reach(x, s, 7, 0, PathWords.NONE, 1, 0);
        }
    }

    static void p15EachStationIsItsBit() {
        for (int one = 0; one < 6; one++) {
            for (int other = 0; other < 6; other++) {
                if (one != other) {
                    PathWords x = new PathWords();
                    x.near(one, other, 1);
                    Check.type(x, "W");
                    reach(x, one, 3, 1 << other, 0, 1, 0);
                }
            }
        }
    }

    static void p15Terms3TheStationItselfMayHearIt() {
        PathWords x = new PathWords();
        x.near(2, 4, 1);
        Check.flood(x, 4, "W");
        Check.type(x, "W");
        reach(x, 2, 1, 0b010100, 1, 2, 0);
    }

    static void p15TheTickIsThatAtWhichTheLastOneHeardItFirst() {
        PathWords x = chain();
        // 2 repeats at tick 2, and 1 hears it then again, but 3 for the first time.
        x.near(2, 3, 0);
        reach(x, 0, 7, 0b111, 1, 3, 0);
        // 1 repeats three ticks later.
        x.set(1, 1, 3);
        reach(x, 0, 7, 0b111, 3, 3, 0);
    }

    static void p15AllHearItAtTick0() {
        PathWords x = new PathWords();
        for (int s = 1; s < 6; s++) {
            x.near(0, s, 1);
        }
        Check.type(x, "W");
        reach(x, 0, 1, 0b111110, 0, 1, 0);
    }

    static void p15CrashesOfAll() {
        PathWords x = new PathWords();
        for (int s = 1; s < 6; s++) {
            x.near(0, s, 1);
            Check.flood(x, s, "W");
        }
        Check.type(x, "W");
        reach(x, 0, 1, 0b111110, 0, 6, 1);
    }

    static void p15EachNumberOfHopsComesOneFarther() {
        PathWords x = chain();
        for (int n = 1; n <= 7; n++) {
            int farthest = Math.min(5, n + 1);
            int tick = farthest - 1;
            reach(x, 0, n, (1 << (farthest + 1)) - 1, tick, Math.min(6, n + 1), 0);
        }
    }

    static void p15HopsAreHeldToTheLimit() {
        PathWords x = chain();
        x.set(1, 0, 1);
        reach(x, 0, 7, 0b111, 1, 2, 0);
        x.set(1, 0, 2);
        reach(x, 0, 7, 0b1111, 2, 3, 0);
    }

    static void p15AStandInIsNotMeantForItHasHops() {
        PathWords x = new PathWords();
        x.near(0, 1, 1);
        Check.standIn(x, 1, "S");
        Check.type(x, "S");
        reach(x, 0, 1, 0b10, 0, 1, 0);
    }

    static void p15ACallIsMeant() {
        PathWords x = chain();
        Check.type(x, "B");
        reach(x, 0, 7, 0b111, 1, 2, 0);
        Check.type(x, "C");
        reach(x, 0, 7, 0b10, 0, 1, 0);
    }

    static void p15ItsOwnCallAsTheName() {
        PathWords x = chain();
        Check.type(x, "A");
        reach(x, 0, 7, 0b10, 0, 1, 0);
        Check.flood(x, 1, "A");
        Check.type(x, "A");
        reach(x, 0, 7, 0b111, 1, 2, 0);
    }

    static void p15Terms3NothingIsKnownOrKeptThere() {
        PathWords x = chain();
        String[] packets = {"A>W-7:a", "A>W-7:b", "A>W-7:x"};
        for (String packet : packets) {
            Check.send(x, 0, packet);
        }
        Check.send(x, 3, "D>W-7:c");
        x.run(2);
        Check.send(x, 1, "B>W-7:d");
        Check.type(x, "W");
        reach(x, 0, 7, 0b111111, 4, 6, 0);
    }

    static void p15Terms3KeptBy12IsNoHindrance() {
        PathWords x = new PathWords();
        x.near(0, 1, 1);
        for (int i = 0; i < 12; i++) {
            Check.send(x, 0, "Q>:a");
            Check.send(x, 1, "Q>:a");
        }
        Check.type(x, "W");
        reach(x, 0, 1, 0b10, 0, 1, 0);
        Check.due("kept", x.count(2), 24);
    }

    static void p15Terms3TicksGoFrom0WhateverNowIs() {
        PathWords x = chain();
        x.run(50);
        x.run(50);
        reach(x, 0, 7, 0b111111, 4, 6, 0);
        Check.due("now", x.count(0), 100);
    }

    static void p15Terms3TicksGoOnTillNothingIsKept() {
        PathWords x = chain();
        for (int s = 0; s < 6; s++) {
            x.set(s, 1, 3);
            x.set(s, 2, 0);
        }
        reach(x, 0, 7, 0b111111, 12, 6, 0);
    }

    static void p15Terms3WithoutWindowItEndsAllTheSame() {
        PathWords x = chain();
        for (int one = 0; one < 6; one++) {
            x.set(one, 2, 0);
            x.set(one, 1, 1 + one % 3);
            for (int other = 0; other < one; other++) {
                x.near(one, other, 1);
            }
        }
        Check.due("all but the first", x.reach(0, 7, 0) & 0b111110, 0b111110);
        Check.due("kept", x.count(2), 0);
        Check.due("now", x.count(0), 0);
    }

    static void p15ChangesNothing() {
        PathWords x = chain();
        Check.send(x, 0, "A>W-7:a");
        x.run(2);
        Check.type(x, "W");
        String before = Check.state(x);
        for (int what = 0; what <= 3; what++) {
            x.reach(1, 7, what);
        }
        Check.due("state", Check.state(x), before);
    }

    static void p15TheNetIsAsItIsThen() {
        PathWords x = chain();
        Check.due("all", x.reach(0, 7, 0), 0b111111);
        x.near(3, 4, 0);
        Check.due("parted", x.reach(0, 7, 0), 0b1111);
        x.forget(2, 2);
        Check.due("forgotten", x.reach(0, 7, 0), 0b111);
    }

    // ---- fewest

    static void p16NoStationBelow0OrAbove5() {
        for (int s : Edges.noStations()) {
            PathWords x = chain();
            Check.due("fewest(" + s + ", 0)", x.fewest(s, 0), PathWords.UNKNOWN);
            Check.due("fewest(0, " + s + ")", x.fewest(0, s), PathWords.UNKNOWN);
            Check.due("fewest(" + s + ", " + s + ")", x.fewest(s, s), PathWords.UNKNOWN);
            Check.due("ahead of a fault", new PathWords().fewest(5, s), PathWords.UNKNOWN);
        }
    }

    static void p16TwoNumbersOfOneStationAreOutside() {
        for (int s = 0; s < 6; s++) {
            Check.due("fewest(" + s + ", " + s + ")", chain().fewest(s, s), PathWords.OUTSIDE);
            Check.due("ahead of a fault", new PathWords().fewest(s, s), PathWords.OUTSIDE);
        }
    }

    static void p16NoNameIsAFault() {
        for (String text : NO_NAMES) {
            PathWords x = chain();
            Check.type(x, text);
            Check.due("fewest by '" + text + "'", x.fewest(0, 1), PathWords.FAULT);
            Check.due("the pad stays", x.count(1), text.length());
        }
    }

    static void p16AFaultComesAheadOfNone() {
        Check.due("fewest", new PathWords().fewest(0, 5), PathWords.FAULT);
    }

    static void p16OneHopToANeighbour() {
        PathWords x = new PathWords();
        x.near(0, 5, 1);
        Check.type(x, "W");
        Check.due("fewest(0, 5)", x.fewest(0, 5), 1);
        Check.due("fewest(5, 0)", x.fewest(5, 0), 1);
        Check.due("the pad stays", x.count(1), 1);
    }

    static void p16ItDoesNotCome() {
        PathWords x = new PathWords();
        Check.type(x, "W");
        for (int s = 1; s < 6; s++) {
            Check.due("near to none", x.fewest(0, s), PathWords.NONE);
            Check.due("near to none", x.fewest(s, 0), PathWords.NONE);
        }
        x.near(0, 1, 1);
        x.near(1, 2, 1);
        Check.due("nobody repeats", x.fewest(0, 2), PathWords.NONE);
    }

    static void p16EachWayOfAChain() {
        PathWords x = chain();
        for (int from = 0; from < 6; from++) {
            for (int to = 0; to < 6; to++) {
                if (from != to) {
                    int due = Math.max(1, Math.abs(from - to) - 1);
                    Check.due("fewest(" + from + ", " + to + ")", x.fewest(from, to), due);
                }
            }
        }
    }

    static void p16HeldToFewerItDoesNotCome() {
        PathWords x = chain();
        x.set(1, 0, 3);
        Check.due("fewest(0, 4)", x.fewest(0, 4), 3);
        Check.due("fewest(0, 5)", x.fewest(0, 5), PathWords.NONE);
        Check.due("fewest(5, 0)", x.fewest(5, 0), 4);
    }

    static void p16ByMoreHopsItMayNotComeThoughByFewerItDoes() {
        // 0 is heard by 1 and 2; 1 is heard by 3, as 3 by 4; by two hops 2 and 3 crash at 4 at tick 2.
        PathWords x = new PathWords();
        Check.join(x, 0, 1, 0, 2, 1, 3, 3, 4, 2, 4);
        int[] repeaters = {1, 2, 3};
        for (int s : repeaters) {
            Check.flood(x, s, "W");
        }
        x.set(2, 1, 2);
        Check.type(x, "W");
        Check.due("by one hop", x.reach(0, 1, 0) >> 4 & 1, 1);
        Check.due("by two hops", x.reach(0, 2, 0) >> 4 & 1, 0);
        Check.due("fewest(0, 4)", x.fewest(0, 4), 1);
        Check.due("bridges by one", x.bridges(0, 4, 1), 0b100);
        Check.due("bridges by two", x.bridges(0, 4, 2), PathWords.NONE);
    }

    static void p16ChangesNothing() {
        PathWords x = chain();
        Check.send(x, 0, "A>W-7:a");
        x.run(2);
        Check.type(x, "W");
        String before = Check.state(x);
        x.fewest(0, 5);
        Check.due("state", Check.state(x), before);
    }

    // ---- bridges

    static void p17NoStationBelow0OrAbove5() {
        for (int s : Edges.noStations()) {
            PathWords x = chain();
            for (int n = 0; n <= 8; n += 4) {
                Check.due("bridges(" + s + ", 0, " + n + ")", x.bridges(s, 0, n), PathWords.UNKNOWN);
                Check.due("bridges(0, " + s + ", " + n + ")", x.bridges(0, s, n), PathWords.UNKNOWN);
                Check.due("bridges(" + s + ", " + s + ", " + n + ")", x.bridges(s, s, n), PathWords.UNKNOWN);
            }
            Check.due("ahead of a fault", new PathWords().bridges(5, s, 1), PathWords.UNKNOWN);
        }
    }

    static void p17TwoNumbersOfOneStationAreOutside() {
        for (int s = 0; s < 6; s++) {
            Check.due("bridges(" + s + ", " + s + ", 1)", chain().bridges(s, s, 1), PathWords.OUTSIDE);
            Check.due("ahead of a fault", new PathWords().bridges(s, s, 7), PathWords.OUTSIDE);
        }
    }

    static void p17NoHopAndEightAreOutside() {
        for (int n : Edges.beyond(1, 7)) {
            Check.due("bridges(0, 5, " + n + ")", chain().bridges(0, 5, n), PathWords.OUTSIDE);
            Check.due("ahead of a fault", new PathWords().bridges(0, 5, n), PathWords.OUTSIDE);
        }
    }

    static void p17OneHopAndSevenAreTaken() {
        PathWords x = chain();
        Check.due("bridges(0, 2, 1)", x.bridges(0, 2, 1), 0b10);
        Check.due("bridges(0, 5, 7)", x.bridges(0, 5, 7), 0b11110);
    }

    static void p17NoNameIsAFault() {
        for (String text : NO_NAMES) {
            PathWords x = chain();
            Check.type(x, text);
            Check.due("bridges by '" + text + "'", x.bridges(0, 1, 1), PathWords.FAULT);
            Check.due("the pad stays", x.count(1), text.length());
        }
    }

    static void p17AFaultComesAheadOfNone() {
        Check.due("bridges", new PathWords().bridges(0, 5, 7), PathWords.FAULT);
    }

    static void p17ItDoesNotComeWithAll() {
        PathWords x = chain();
        Check.due("bridges(0, 5, 3)", x.bridges(0, 5, 3), PathWords.NONE);
        Check.due("bridges(0, 5, 4)", x.bridges(0, 5, 4), 0b11110);
        PathWords y = new PathWords();
        Check.type(y, "W");
        Check.due("near to none", y.bridges(0, 5, 7), PathWords.NONE);
    }

    static void p17NoneIsNeeded() {
        PathWords x = chain();
        Check.due("neighbours", x.bridges(0, 1, 7), 0);
        Check.due("neighbours", x.bridges(5, 4, 1), 0);
    }

    static void p17NeitherOfBothIsABridge() {
        PathWords x = chain();
        for (int from = 0; from < 6; from++) {
            for (int to = 0; to < 6; to++) {
                if (from != to) {
                    int due = 0;
                    for (int s = Math.min(from, to) + 1; s < Math.max(from, to); s++) {
                        due |= 1 << s;
                    }
                    Check.due("bridges(" + from + ", " + to + ", 7)", x.bridges(from, to, 7), due);
                }
            }
        }
    }

    static void p17EachStationCanBeABridge() {
        for (int bridge = 0; bridge < 6; bridge++) {
            PathWords x = new PathWords();
            int from = (bridge + 1) % 6;
            int to = (bridge + 5) % 6;
            Check.join(x, from, bridge, bridge, to);
            Check.flood(x, bridge, "W");
            Check.type(x, "W");
            Check.due("bridges by " + bridge, x.bridges(from, to, 1), 1 << bridge);
            Check.due("fewest", x.fewest(from, to), 1);
        }
    }

    static void p17TwoWaysNeedNeither() {
        PathWords x = new PathWords();
        Check.join(x, 0, 1, 0, 2, 1, 3, 2, 3, 3, 4);
        int[] repeaters = {1, 2, 3};
        for (int s : repeaters) {
            Check.flood(x, s, "W");
        }
        x.set(2, 1, 2);
        Check.type(x, "W");
        Check.due("bridges(0, 3, 1)", x.bridges(0, 3, 1), 0);
        Check.due("bridges(0, 4, 2)", x.bridges(0, 4, 2), 0b1000);
        Check.due("by one hop it does not come", x.bridges(0, 4, 1), PathWords.NONE);
    }

    static void p17WithoutOneTheOthersMayCrash() {
        // 2 and 5 repeat at one tick and crash at 3; 1 repeats later and comes to 3 alone.
        PathWords x = new PathWords();
        Check.join(x, 0, 1, 0, 2, 0, 5, 1, 3, 2, 3, 5, 3);
        int[] repeaters = {1, 2, 5};
        for (int s : repeaters) {
            Check.flood(x, s, "W");
        }
        x.set(1, 1, 3);
        Check.type(x, "W");
        Check.due("bridges(0, 3, 1)", x.bridges(0, 3, 1), 0b10);
        // With all three at once it does not come, though without two of them it would.
        x.set(1, 1, 1);
        Check.due("bridges(0, 3, 1)", x.bridges(0, 3, 1), PathWords.NONE);
    }

    static void p17ChangesNothing() {
        PathWords x = chain();
        Check.send(x, 0, "A>W-7:a");
        x.run(2);
        Check.type(x, "W");
        String before = Check.state(x);
        x.bridges(0, 5, 7);
        Check.due("state", Check.state(x), before);
        Check.due("pairs", x.count(5), 5);
        Check.due("again", x.bridges(0, 5, 7), 0b11110);
    }
}
