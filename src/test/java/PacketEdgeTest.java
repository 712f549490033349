/** The edges of promises 9 to 14: send, run, heard, written, last, trail. */
public final class PacketEdgeTest {
    private PacketEdgeTest() {
    }

    public static void main(String[] args) throws ReflectiveOperationException {
        Edges.run(PacketEdgeTest.class, 9, 14);
    }

    /** Stations 0 and 1 are near each other. */
    private static PathWords pair() {
        PathWords x = new PathWords();
        x.near(0, 1, 1);
        return x;
    }

    private static int send(PathWords x, int s, String packet) {
        Check.type(x, packet);
        return x.send(s);
    }

    // ---- send

    static void p09NoStationBelow0OrAbove5() {
        for (int s : Edges.noStations()) {
            PathWords x = new PathWords();
            Check.due("send(" + s + ")", send(x, s, "A>:a"), PathWords.UNKNOWN);
            Check.due("the pad stays", x.count(1), 4);
            Check.due("ahead of a fault", send(x, s, "A>:"), PathWords.UNKNOWN);
            Check.due("nothing is kept", x.count(2), 0);
        }
    }

    static void p09EachStationSends() {
        for (int s = 0; s < 6; s++) {
            PathWords x = new PathWords();
            Check.due("send(" + s + ")", send(x, s, "A>:a"), 1);
            Check.due("the pad is empty then", x.count(1), 0);
            Check.due("keeps", x.heard(s, 9), 1);
            Check.due("knows", x.heard(s, 10), 1);
        }
    }

    static void p09AnEmptyPadIsAFault() {
        PathWords x = new PathWords();
        Check.due("send", x.send(0), PathWords.FAULT);
        Check.due("kept", x.count(2), 0);
        Check.due("known", x.heard(0, 10), 0);
    }

    static void p09APadThatEndsTooEarlyIsAFault() {
        String packet = "AB>CD-1*,E:fg";
        for (int n = 0; n <= packet.indexOf(':') + 1; n++) {
            PathWords x = new PathWords();
            Check.due("send " + n, send(x, 0, packet.substring(0, n)), PathWords.FAULT);
            Check.due("the pad stays", x.count(1), n);
            Check.due("kept", x.count(2), 0);
        }
    }

    static void p09ANameIsNoPacket() {
        Check.due("send", send(new PathWords(), 0, "ABC"), PathWords.FAULT);
    }

    /** Twelve packets, Q>:a to Q>:l, kept by a station. */
    private static PathWords twelve(int s) {
        PathWords x = pair();
        for (int i = 1; i <= 12; i++) {
            Check.due("send", send(x, s, "Q>:" + (char) ('a' + i - 1)), i);
        }
        return x;
    }

    static void p09Terms2TheTwelfthIsKept() {
        PathWords x = twelve(0);
        Check.due("keeps", x.heard(0, 9), 12);
        Check.due("kept by all", x.count(2), 12);
    }

    static void p09Terms2TheThirteenthIsFull() {
        PathWords x = twelve(0);
        Check.due("send", send(x, 0, "Q>:m"), PathWords.FULL);
        Check.due("the pad stays", x.count(1), 4);
        Check.due("keeps", x.heard(0, 9), 12);
        Check.due("knows", x.heard(0, 10), 12);
        Check.due("none is lost", x.heard(0, 8), 0);
        Check.due("another station has room", x.send(1), 1);
    }

    static void p09FullEvenForOneThatItKnows() {
        PathWords x = twelve(0);
        Check.due("send", send(x, 0, "Q>:a"), PathWords.FULL);
        Check.due("knows", x.heard(0, 10), 12);
    }

    static void p09RoomAgainAsOneIsSent() {
        PathWords x = twelve(0);
        Check.due("run", x.run(1), 11);
        Check.due("send", send(x, 0, "Q>:m"), 12);
        Check.due("send", send(x, 0, "Q>:n"), PathWords.FULL);
        Check.due("run", x.run(12), 0);
        Check.due("sent", x.heard(0, 0), 13);
        Check.due("in the order in which they were kept", Check.written(x, 1), "Q>:m");
    }

    static void p09AFaultComesAheadOfFull() {
        PathWords x = twelve(0);
        Check.due("send", send(x, 0, "Q>:"), PathWords.FAULT);
        Check.due("send", send(x, 0, ""), PathWords.FAULT);
    }

    static void p09WhatWasRefusedAsFullIsNeverSent() {
        PathWords x = twelve(0);
        send(x, 0, "Q>:zzzz");
        x.run(13);
        Check.due("sent", x.heard(0, 0), 12);
        Check.due("the last", Check.written(x, 1), "Q>:l");
    }

    static void p09DueNow() {
        PathWords x = pair();
        x.run(7);
        send(x, 0, "Q>:a");
        Check.due("nothing goes ahead of the tick", x.heard(0, 0), 0);
        Check.due("it goes at the next tick", x.run(1), 0);
        Check.due("heard at", x.last(1, 2), 7);
    }

    /** Sends by station 0 so many packets of another text each, one a tick; all are known. */
    private static PathWords knowing(int many) {
        PathWords x = pair();
        x.set(0, 2, 60);
        for (int i = 0; i < many; i++) {
            send(x, 0, "Q>:k" + (char) ('a' + i));
            x.run(1);
        }
        return x;
    }

    static void p09Terms2TheSixteenthIsKnown() {
        PathWords x = knowing(16);
        Check.due("knows", x.heard(0, 10), 16);
        send(x, 1, "Q>:ka");
        x.run(1);
        Check.due("the first is known", x.heard(0, 3), 1);
    }

    static void p09Terms2ForTheSeventeenthTheFirstGoes() {
        PathWords x = knowing(17);
        Check.due("knows", x.heard(0, 10), 16);
        send(x, 1, "Q>:kb");
        x.run(1);
        Check.due("the second is known", x.heard(0, 3), 1);
        send(x, 1, "Q>:kq");
        x.run(1);
        Check.due("the seventeenth is known", x.heard(0, 3), 2);
        send(x, 1, "Q>:ka");
        x.run(1);
        Check.due("the first is not", x.heard(0, 3), 2);
        Check.due("it is an end", x.heard(0, 4), 1);
    }

    static void p09OneKnownAlreadyPushesNoneOut() {
        PathWords x = knowing(16);
        send(x, 0, "Q>B:kp");
        Check.due("knows", x.heard(0, 10), 16);
        x.run(1);
        send(x, 1, "Q>:ka");
        x.run(1);
        Check.due("the first is known still", x.heard(0, 3), 1);
    }

    static void p09OneKnownAlreadyComesBehindAllOthers() {
        PathWords x = knowing(16);
        send(x, 0, "Q>:ka");
        Check.due("knows", x.heard(0, 10), 16);
        x.run(1);
        send(x, 0, "Q>:new");
        x.run(1);
        send(x, 1, "Q>:ka");
        x.run(1);
        Check.due("it is known", x.heard(0, 3), 1);
        send(x, 1, "Q>:kb");
        x.run(1);
        Check.due("what was the second went", x.heard(0, 3), 1);
    }

    static void p09SourceAndTextBothTellWhatItKnew() {
        PathWords x = pair();
        send(x, 0, "A>:a");
        send(x, 0, "A>X*,Y-3:a");
        Check.due("the words do not count", x.heard(0, 10), 1);
        send(x, 0, "A>:aa");
        Check.due("another text", x.heard(0, 10), 2);
        send(x, 0, "AA>:a");
        Check.due("another source", x.heard(0, 10), 3);
        Check.due("keeps", x.heard(0, 9), 4);
    }

    /** Whether station 0, which sent a packet at tick 3, takes it for a double so many ticks later. */
    private static int doubleOfSent(int later) {
        PathWords x = pair();
        x.run(3);
        send(x, 0, "Q>:a");
        x.run(later);
        send(x, 1, "Q>:a");
        x.run(1);
        Check.due("heard", x.heard(0, 1), 1);
        return x.heard(0, 3);
    }

    static void p09KnownFromNowOn() {
        Check.due("just WINDOW ticks later", doubleOfSent(10), 1);
        Check.due("one tick more", doubleOfSent(11), 0);
    }

    static void p09KnownFromTheTickOfTheLastSend() {
        PathWords x = pair();
        send(x, 0, "Q>:a");
        x.run(8);
        send(x, 0, "Q>:a");
        x.run(10);
        send(x, 1, "Q>:a");
        x.run(1);
        Check.due("a double, 10 ticks later", x.heard(0, 3), 1);
        send(x, 1, "Q>:a");
        x.run(1);
        Check.due("none, 11 ticks later", x.heard(0, 3), 1);
    }

    static void p09WhatIsKnownBesidesStaysAsItWas() {
        PathWords x = pair();
        send(x, 0, "Q>:a");
        x.run(2);
        send(x, 0, "R>:b");
        x.run(1);
        send(x, 0, "Q>:a");
        x.run(8);
        send(x, 1, "Q>:b");
        x.run(1);
        Check.due("another source", x.heard(0, 4), 1);
        send(x, 1, "R>:b");
        x.run(1);
        Check.due("R came 10 ticks ago", x.heard(0, 3), 1);
        send(x, 1, "R>:b");
        x.run(1);
        Check.due("R came 11 ticks ago", x.heard(0, 3), 1);
    }

    static void p09KnownFromNowThoughItIsSentLater() {
        PathWords x = twelve(0);
        x.run(1);
        // The packet l was kept at tick 0 and goes at tick 11, when station 0 hears nothing.
        x.run(11);
        send(x, 1, "Q>:l");
        x.run(1);
        Check.due("12 ticks after the send, 1 after it went", x.heard(0, 3), 0);
        Check.due("an end", x.heard(0, 4), 1);
    }

    static void p09SendingLeavesWhatCameTooLongAgo() {
        PathWords x = pair();
        x.set(0, 2, 0);
        send(x, 0, "Q>:a");
        x.run(5);
        send(x, 0, "Q>:b");
        x.run(5);
        Check.due("knows both", x.heard(0, 10), 2);
    }

    // ---- run

    static void p10OneTickAndFifty() {
        PathWords x = new PathWords();
        Check.due("run(1)", x.run(1), 0);
        Check.due("now", x.count(0), 1);
        Check.due("run(50)", x.run(50), 0);
        Check.due("now", x.count(0), 51);
    }

    static void p10NoTickAndFiftyOneAreOutside() {
        for (int n : Edges.beyond(1, 50)) {
            PathWords x = pair();
            send(x, 0, "A>:a");
            Check.due("run(" + n + ")", x.run(n), PathWords.OUTSIDE);
            Check.due("now", x.count(0), 0);
            Check.due("kept", x.count(2), 1);
            Check.due("sent", x.count(3), 0);
        }
    }

    static void p10EachNumberOfTicksBetween() {
        for (int n = 1; n <= 50; n++) {
            PathWords x = new PathWords();
            Check.due("run(" + n + ")", x.run(n), 0);
            Check.due("now", x.count(0), n);
        }
    }

    static void p10ToldIsWhatAllKeepThen() {
        PathWords x = new PathWords();
        for (int i = 0; i < 12; i++) {
            send(x, 0, "Q>:a");
            send(x, 5, "Q>:a");
        }
        Check.due("kept", x.count(2), 24);
        Check.due("run(1)", x.run(1), 22);
        Check.due("run(10)", x.run(10), 2);
        Check.due("run(1)", x.run(1), 0);
        Check.due("run(50)", x.run(50), 0);
    }

    static void p10FiftyAtOnceAreFiftyTicks() {
        PathWords x = floodedRing();
        PathWords y = floodedRing();
        x.run(50);
        for (int i = 0; i < 50; i++) {
            y.run(1);
        }
        for (int s = 0; s < 6; s++) {
            Check.due("tallies of " + s, Check.tallies(x, s), Check.tallies(y, s));
            Check.due("heard at", x.last(s, 2), y.last(s, 2));
        }
    }

    private static PathWords floodedRing() {
        PathWords x = new PathWords();
        for (int s = 0; s < 6; s++) {
            x.near(s, (s + 1) % 6, 1);
            Check.flood(x, s, "W");
            x.set(s, 0, 7);
            x.set(s, 1, 1 + s % 3);
            x.set(s, 2, s % 2);
        }
        send(x, 0, "A>W-7,W-7:a");
        send(x, 3, "D>W-7,W-7:b");
        return x;
    }

    static void p10ManyTicksWithinOneObject() {
        PathWords x = pair();
        for (int i = 0; i < 300; i++) {
            x.run(50);
        }
        send(x, 0, "Q>:a");
        x.run(1);
        Check.due("now", x.count(0), 15001);
        Check.due("heard at", x.last(1, 2), 15000);
    }

    // ---- heard

    static void p11NoStationBelow0OrAbove5() {
        for (int s : Edges.noStations()) {
            for (int what = -1; what <= 11; what++) {
                Check.due("heard(" + s + ", " + what + ")", new PathWords().heard(s, what), PathWords.UNKNOWN);
            }
        }
    }

    static void p11WhatBelow0OrAbove10IsOutside() {
        for (int what : Edges.beyond(0, 10)) {
            for (int s = 0; s < 6; s++) {
                Check.due("heard(" + s + ", " + what + ")", new PathWords().heard(s, what), PathWords.OUTSIDE);
            }
        }
    }

    /** The numbers differ, so that none can stand for another. */
    static void p11EachKindIsToldApart() {
        PathWords x = pair();
        x.near(1, 2, 1);
        x.set(1, 1, 3);
        x.set(1, 2, 60);
        for (int i = 0; i < 8; i++) {
            send(x, 0, "B>:" + (char) ('a' + i));
            x.run(1);
        }
        for (int i = 0; i < 4; i++) {
            send(x, 0, "Q>:" + (char) ('a' + i));
            x.run(1);
        }
        for (int i = 0; i < 3; i++) {
            send(x, 0, "Q>:a");
            x.run(1);
        }
        for (int i = 0; i < 5; i++) {
            send(x, 0, "R>C:" + (char) ('a' + i));
            x.run(1);
        }
        for (int i = 0; i < 6; i++) {
            send(x, 0, "Q>:x");
            send(x, 2, "Q>:y");
            x.run(1);
        }
        for (int i = 0; i < 2; i++) {
            send(x, 0, "S>B:" + (char) ('a' + i));
            x.run(1);
        }
        // It knows the ends, the foreign ones and what it repeated.
        Check.due("tallies", Check.tallies(x, 1), "0 22 8 3 4 2 5 6 0 2 11");
        x.run(2);
        Check.due("tallies", Check.tallies(x, 1), "1 22 8 3 4 2 5 6 0 1 11");
        x.run(1);
        Check.due("tallies", Check.tallies(x, 1), "2 22 8 3 4 2 5 6 0 0 11");
    }

    static void p11WhatCameTooLongAgoGoesOnlyAsItHears() {
        PathWords x = pair();
        x.near(1, 2, 1);
        x.set(1, 2, 0);
        send(x, 0, "Q>:a");
        x.run(50);
        Check.due("knows still", x.heard(1, 10), 1);
        send(x, 1, "Q>:b");
        x.run(1);
        Check.due("as it sends", x.heard(1, 10), 2);
        send(x, 0, "Q>:c");
        send(x, 2, "Q>:d");
        x.run(1);
        Check.due("as there is a crash", x.heard(1, 10), 2);
        x.set(1, 2, 1);
        Check.due("as the window is set", x.heard(1, 10), 2);
        send(x, 0, "B>:e");
        x.run(1);
        Check.due("as it hears its own", x.heard(1, 10), 0);
    }

    static void p11NoneIsEverLost() {
        PathWords x = pair();
        x.set(1, 1, 3);
        for (int i = 0; i < 3; i++) {
            send(x, 0, "Q>B:" + (char) ('a' + i));
            x.run(1);
        }
        Check.due("keeps", x.heard(1, 9), 3);
        for (int i = 4; i <= 12; i++) {
            Check.due("send", send(x, 1, "R>:" + (char) ('a' + i)), i);
        }
        Check.due("full", send(x, 1, "R>:z"), PathWords.FULL);
        // It sends at each tick now, and so hears nothing that it could lose.
        send(x, 0, "Q>B:d");
        x.run(1);
        Check.due("keeps", x.heard(1, 9), 11);
        Check.due("heard", x.heard(1, 1), 3);
        Check.due("lost", x.heard(1, 8), 0);
        Check.due("run", x.run(11), 0);
        Check.due("sent", x.heard(1, 0), 12);
    }

    // ---- written

    static void p12NoStationBelow0OrAbove5() {
        for (int s : Edges.noStations()) {
            for (int k = -2; k <= 1; k++) {
                Check.due("written(" + s + ", " + k + ")", new PathWords().written(s, k), PathWords.UNKNOWN);
            }
        }
    }

    private static PathWords heardBy1(String packet) {
        PathWords x = pair();
        send(x, 0, packet);
        x.run(1);
        return x;
    }

    static void p12BelowMinus1IsOutside() {
        for (int k : Edges.beyond(-1, Integer.MAX_VALUE - 2)) {
            if (k < 0) {
                Check.due("written(1, " + k + ")", heardBy1("Q>:a").written(1, k), PathWords.OUTSIDE);
                Check.due("ahead of state", new PathWords().written(1, k), PathWords.OUTSIDE);
            }
        }
    }

    static void p12HeardNoneYetIsState() {
        int[] all = {-1, 0, 1, 40, Integer.MAX_VALUE};
        PathWords x = heardBy1("Q>:a");
        for (int k : all) {
            Check.due("new", new PathWords().written(0, k), PathWords.STATE);
            Check.due("it sent only", x.written(0, k), PathWords.STATE);
            Check.due("it is near to none", x.written(2, k), PathWords.STATE);
        }
    }

    static void p12ACrashIsNotHeard() {
        PathWords x = pair();
        x.near(1, 2, 1);
        send(x, 0, "Q>:a");
        send(x, 2, "Q>:b");
        x.run(1);
        Check.due("crash", x.heard(1, 7), 1);
        Check.due("written", x.written(1, -1), PathWords.STATE);
    }

    static void p12Minus1IsHowManySigns() {
        Check.due("shortest", heardBy1("Q>:a").written(1, -1), 4);
        Check.due("forty", heardBy1("AAA>BBB-1*,CCC-2*,DDD-3*,EEE-4*,FFF-5*:z").written(1, -1), 40);
    }

    static void p12TheFirstAndTheLastSign() {
        PathWords x = heardBy1("QR>S-1*:yz");
        Check.due("first", x.written(1, 0), 'Q');
        Check.due("last", x.written(1, 9), 'z');
        Check.due("the one before", x.written(1, 8), 'y');
    }

    static void p12BehindTheLastSignIsNone() {
        PathWords x = heardBy1("QR>S-1*:yz");
        int[] behind = {10, 11, 40, 63, 64, 65, 256, 65536, Integer.MAX_VALUE - 1, Integer.MAX_VALUE};
        for (int k : behind) {
            Check.due("written(1, " + k + ")", x.written(1, k), PathWords.NONE);
        }
    }

    static void p12AShorterOneBehindALonger() {
        PathWords x = heardBy1("AAA>BBB-1*,CCC-2*,DDD-3*,EEE-4*,FFF-5*:z");
        send(x, 0, "Q>:a");
        x.run(1);
        Check.due("written", Check.written(x, 1), "Q>:a");
        Check.due("behind the last", x.written(1, 4), PathWords.NONE);
    }

    static void p12Terms1EachFormOfAWord() {
        String[] packets = {
            "A>:a", "ABC>:abcd", "A>B:a", "A>B*:a", "A>B-1:a", "A>B-7:a", "A>B-1*:a", "A>BCD-7*:a", "A>B,C:a",
            "ZZZ>ZZZ,ZZ,Z:zzzz", "A>B*,C-2,D-3*,E,F-4:a", "AZ>ZA-4*,AAZ*:az", "A>X,X,X,X,X:a",
        };
        for (String packet : packets) {
            Check.due("written", Check.written(heardBy1(packet), 1), packet);
        }
    }

    /** Five words of forty signs become eight of 55, by the chain 0 to 5. */
    private static PathWords longChain() {
        PathWords x = new PathWords();
        String[] calls = {"AAA", "BBB", "CCC", "DDD", "EEE", "FFF"};
        for (int s = 0; s < 6; s++) {
            Check.call(x, s, calls[s]);
            Check.flood(x, s, "WWW");
            x.set(s, 0, 7);
            if (s > 0) {
                x.near(s - 1, s, 1);
            }
        }
        Check.due("send", send(x, 0, "AAA>XXX-1*,XXX-2*,XXX-3*,XXX-4*,WWW-7:az"), 1);
        return x;
    }

    static void p12Terms1TheLongestThatCanBeHeard() {
        PathWords x = longChain();
        x.run(4);
        Check.due("signs", x.written(4, -1), 55);
        String due = "AAA>XXX-1*,XXX-2*,XXX-3*,XXX-4*,BBB*,CCC*,DDD*,WWW-4:az";
        Check.due("written", Check.written(x, 4), due);
        Check.due("last", x.written(4, 54), 'z');
        Check.due("behind the last", x.written(4, 55), PathWords.NONE);
    }

    static void p12Terms2TheLastIsAsItWasHeard() {
        PathWords x = heardBy1("Q>B-3:a");
        Check.due("not as it is repeated", Check.written(x, 1), "Q>B-3:a");
        x.run(1);
        Check.due("still", Check.written(x, 1), "Q>B-3:a");
        Check.due("as it was repeated", Check.written(x, 0), "Q>B*:a");
    }

    static void p12Terms2OwnAndDoubleAreTheLastToo() {
        PathWords x = heardBy1("Q>:a");
        send(x, 0, "Q>X:a");
        x.run(1);
        Check.due("double", x.heard(1, 3), 1);
        Check.due("written", Check.written(x, 1), "Q>X:a");
        send(x, 0, "B>Y:b");
        x.run(1);
        Check.due("own", x.heard(1, 2), 1);
        Check.due("written", Check.written(x, 1), "B>Y:b");
    }

    static void p12ThePadAndTheCallsDoNotMatter() {
        PathWords x = heardBy1("Q>B:a");
        Check.call(x, 1, "XYZ");
        Check.type(x, "PAD");
        Check.due("written", Check.written(x, 1), "Q>B:a");
    }

    // ---- last

    static void p13NoStationBelow0OrAbove5() {
        for (int s : Edges.noStations()) {
            for (int what = -1; what <= 4; what++) {
                Check.due("last(" + s + ", " + what + ")", new PathWords().last(s, what), PathWords.UNKNOWN);
            }
        }
    }

    static void p13WhatBelow0OrAbove3IsOutside() {
        for (int what : Edges.beyond(0, 3)) {
            Check.due("last(1, " + what + ")", heardBy1("Q>:a").last(1, what), PathWords.OUTSIDE);
            Check.due("ahead of state", new PathWords().last(1, what), PathWords.OUTSIDE);
        }
    }

    static void p13HeardNoneYetIsState() {
        PathWords x = heardBy1("Q>:a");
        for (int what = 0; what <= 3; what++) {
            Check.due("new", new PathWords().last(5, what), PathWords.STATE);
            Check.due("it sent only", x.last(0, what), PathWords.STATE);
        }
    }

    private static void last(String packet, int words, int spent, int hops) {
        PathWords x = heardBy1(packet);
        Check.due("words of " + packet, x.last(1, 0), words);
        Check.due("spent of " + packet, x.last(1, 1), spent);
        Check.due("tick of " + packet, x.last(1, 2), 0);
        Check.due("hops of " + packet, x.last(1, 3), hops);
    }

    static void p13NoWords() {
        last("Q>:a", 0, 0, PathWords.NONE);
    }

    static void p13AllWordsAreSpent() {
        last("Q>X*:a", 1, 1, PathWords.NONE);
        last("Q>X-1*,Y-7*:a", 2, 2, PathWords.NONE);
        last("Q>X*,X*,X*,X*,X-3*:a", 5, 5, PathWords.NONE);
    }

    static void p13NoHopsAre0() {
        last("Q>X:a", 1, 0, 0);
        last("Q>X-5*,Y,Z-4:a", 3, 1, 0);
    }

    static void p13HopsOf1And7() {
        last("Q>X-1:a", 1, 0, 1);
        last("Q>X-7:a", 1, 0, 7);
        last("Q>X-2*,Y-7,Z-4:a", 3, 1, 7);
        last("Q>X-1,Y-2,Z-3*:a", 3, 1, 1);
    }

    static void p13EightWords() {
        PathWords x = longChain();
        x.run(4);
        Check.due("words", x.last(4, 0), 8);
        Check.due("spent", x.last(4, 1), 7);
        Check.due("tick", x.last(4, 2), 3);
        Check.due("hops", x.last(4, 3), 4);
    }

    static void p13Terms2TheFirstTickIs0() {
        PathWords x = heardBy1("Q>:a");
        Check.due("tick", x.last(1, 2), 0);
        send(x, 0, "Q>:b");
        x.run(1);
        Check.due("tick", x.last(1, 2), 1);
        x.run(50);
        Check.due("it stays", x.last(1, 2), 1);
    }

    // ---- trail

    static void p14NoStationBelow0OrAbove5() {
        for (int s : Edges.noStations()) {
            for (int i = -2; i <= 1; i++) {
                Check.due("trail(" + s + ", " + i + ")", new PathWords().trail(s, i), PathWords.UNKNOWN);
            }
        }
    }

    static void p14HeardNoneYetIsStateForEachI() {
        int[] all = {Integer.MIN_VALUE, -3, -2, -1, 0, 1, 8, Integer.MAX_VALUE};
        PathWords x = heardBy1("Q>:a");
        for (int i : all) {
            Check.due("new", new PathWords().trail(0, i), PathWords.STATE);
            Check.due("it sent only", x.trail(0, i), PathWords.STATE);
        }
    }

    static void p14BelowMinus1IsNone() {
        PathWords x = heardBy1("Q>A*,B,C*:a");
        int[] below = {-2, -3, -6, -7, -32, -256, -65536, Integer.MIN_VALUE + 1, Integer.MIN_VALUE};
        for (int i : below) {
            Check.due("trail(1, " + i + ")", x.trail(1, i), PathWords.NONE);
        }
    }

    static void p14Minus1IsHowManyAreSpent() {
        Check.due("no words", heardBy1("Q>:a").trail(1, -1), 0);
        Check.due("none", heardBy1("Q>A,C:a").trail(1, -1), 0);
        Check.due("some", heardBy1("Q>A*,D,C*:a").trail(1, -1), 2);
        Check.due("all", heardBy1("Q>A*,C*,D*,E*,F*:a").trail(1, -1), 5);
    }

    static void p14BehindTheLastSpentIsNone() {
        PathWords x = heardBy1("Q>F*,D,C-2*,E:a");
        Check.due("first", x.trail(1, 0), 5);
        Check.due("last", x.trail(1, 1), 2);
        int[] behind = {2, 3, 4, 5, 8, 32, 256, 65536, Integer.MAX_VALUE - 1, Integer.MAX_VALUE};
        for (int i : behind) {
            Check.due("trail(1, " + i + ")", x.trail(1, i), PathWords.NONE);
        }
    }

    static void p14NoneIsSpent() {
        Check.due("no words", heardBy1("Q>:a").trail(1, 0), PathWords.NONE);
        Check.due("none spent", heardBy1("Q>A,C:a").trail(1, 0), PathWords.NONE);
    }

    static void p14NoStationHasItsName() {
        PathWords x = heardBy1("Q>X*,AA*,A*:a");
        Check.due("X", x.trail(1, 0), PathWords.NONE);
        Check.due("AA", x.trail(1, 1), PathWords.NONE);
        Check.due("A", x.trail(1, 2), 0);
    }

    static void p14StandInsAndFloodsAreNoCalls() {
        PathWords x = heardBy1("Q>S*,W*:a");
        Check.standIn(x, 4, "S");
        Check.flood(x, 4, "W");
        Check.due("S", x.trail(1, 0), PathWords.NONE);
        Check.due("W", x.trail(1, 1), PathWords.NONE);
    }

    static void p14CallsAreAsTheyAreThen() {
        PathWords x = heardBy1("Q>F*,X*:a");
        Check.due("F", x.trail(1, 0), 5);
        Check.call(x, 5, "X");
        Check.due("F is none's", x.trail(1, 0), PathWords.NONE);
        Check.due("X is 5", x.trail(1, 1), 5);
        Check.call(x, 2, "F");
        Check.due("F is 2", x.trail(1, 0), 2);
    }

    static void p14EightSpentWords() {
        PathWords x = longChain();
        // Station 4 has eight words then, and takes the place of W.
        x.set(4, 0, 1);
        x.run(5);
        Check.due("how many", x.trail(5, -1), 8);
        int[] due = {PathWords.NONE, PathWords.NONE, PathWords.NONE, PathWords.NONE, 1, 2, 3, 4, PathWords.NONE};
        for (int i = 0; i < due.length; i++) {
            Check.due("trail(5, " + i + ")", x.trail(5, i), due[i]);
        }
    }
}
