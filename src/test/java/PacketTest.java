/** Promises 9 to 14, and what a tick does: send, run, heard, written, last, trail. */
public final class PacketTest {
    private static final int[] NO_STATIONS = {-1, 6, 7, Integer.MIN_VALUE, Integer.MAX_VALUE};

    private PacketTest() {
    }

    public static void main(String[] args) {
        sending();
        sendingRefusals();
        sendingKnows();
        running();
        runningRefusals();
        hearingAndCrashes();
        own();
        doubles();
        windows();
        knowsSixteen();
        ends();
        repeatedByCall();
        repeatedByStandIn();
        repeatedByFlood();
        eightWords();
        delays();
        keptLongestGoesFirst();
        laterCallsAndNearness();
        heardRefusals();
        writing();
        lasts();
        trails();
        Check.end("PacketTest");
    }

    private static void sending() {
        PathWords x = new PathWords();
        for (int i = 0; i < 12; i++) {
            Check.type(x, "Q>:" + (char) ('a' + i));
            Check.due("send", x.send(3), i + 1);
            Check.due("the pad is empty then", x.count(1), 0);
        }
        Check.due("keeps", x.heard(3, 9), 12);
        Check.due("knows", x.heard(3, 10), 12);
        Check.type(x, "Q>:z");
        Check.due("one more than 12", x.send(3), PathWords.FULL);
        Check.due("the pad stays", x.count(1), 4);
        Check.due("knows no more", x.heard(3, 10), 12);
        Check.due("another station", x.send(2), 1);
        Check.due("kept by all", x.count(2), 13);
        Check.due("run", x.run(1), 11);
        Check.due("run", x.run(11), 0);
        Check.due("sent", x.heard(3, 0), 12);
        Check.due("sent by all", x.count(3), 13);
    }

    private static void sendingRefusals() {
        PathWords x = new PathWords();
        for (int s : NO_STATIONS) {
            Check.due("send of no station", x.send(s), PathWords.UNKNOWN);
        }
        Check.due("send of an empty pad", x.send(0), PathWords.FAULT);
        for (int i = 0; i < 12; i++) {
            Check.send(x, 0, "A>:a");
        }
        Check.type(x, "A>:");
        Check.due("a fault comes ahead of full", x.send(0), PathWords.FAULT);
        Check.due("the pad stays", x.count(1), 3);
        Check.due("keeps", x.heard(0, 9), 12);
    }

    private static void sendingKnows() {
        PathWords x = new PathWords();
        Check.send(x, 0, "A>:a");
        Check.send(x, 0, "A>:a");
        Check.send(x, 0, "A>B:a");
        Check.due("the same source and text is known once", x.heard(0, 10), 1);
        Check.send(x, 0, "A>:b");
        Check.send(x, 0, "B>:a");
        Check.due("another text, another source", x.heard(0, 10), 3);
        Check.due("keeps", x.heard(0, 9), 5);
        // a was said again and came last then, so b goes first when sixteen are known.
        PathWords y = new PathWords();
        Check.join(y, 0, 1);
        Check.send(y, 0, "Q>:a");
        Check.send(y, 0, "Q>:b");
        Check.send(y, 0, "Q>:a");
        y.run(3);
        for (int i = 0; i < 15; i++) {
            Check.send(y, 0, "Q>:x" + (char) ('a' + i));
            y.run(1);
        }
        Check.due("knows 16", y.heard(0, 10), 16);
        y.set(0, 2, 60);
        Check.send(y, 1, "Q>:a");
        Check.send(y, 1, "Q>:b");
        y.run(2);
        Check.due("a is known still", y.heard(0, 3), 1);
        Check.due("b is not", y.heard(0, 4), 1);
    }

    private static void running() {
        PathWords x = new PathWords();
        Check.due("run(50)", x.run(50), 0);
        Check.due("now", x.count(0), 50);
        Check.due("run(1)", x.run(1), 0);
        Check.due("now", x.count(0), 51);
        Check.send(x, 0, "A>:a");
        Check.send(x, 0, "A>:b");
        Check.send(x, 1, "A>:b");
        Check.due("a packet a tick", x.run(1), 1);
        Check.due("now", x.count(0), 52);
        Check.due("run", x.run(1), 0);
        Check.due("sent", x.heard(0, 0), 2);
        Check.due("sent", x.heard(1, 0), 1);
    }

    private static void runningRefusals() {
        PathWords x = new PathWords();
        Check.send(x, 0, "A>:a");
        int[] outside = {0, 51, -1, Integer.MIN_VALUE, Integer.MAX_VALUE};
        for (int n : outside) {
            Check.due("run(" + n + ")", x.run(n), PathWords.OUTSIDE);
            Check.due("now", x.count(0), 0);
            Check.due("kept", x.count(2), 1);
        }
    }

    private static void hearingAndCrashes() {
        PathWords x = new PathWords();
        Check.join(x, 0, 1, 1, 2, 0, 2, 2, 3, 4, 1);
        Check.send(x, 0, "A>:a");
        Check.send(x, 1, "B>:b");
        x.run(1);
        Check.due("0 sends and hears nothing", Check.tallies(x, 0), "1 0 0 0 0 0 0 0 0 0 1");
        Check.due("1 sends and hears nothing", Check.tallies(x, 1), "1 0 0 0 0 0 0 0 0 0 1");
        Check.due("2 has a crash", Check.tallies(x, 2), "0 0 0 0 0 0 0 1 0 0 0");
        Check.due("3 is near to no sender", Check.tallies(x, 3), "0 0 0 0 0 0 0 0 0 0 0");
        Check.due("4 hears 1 alone", Check.tallies(x, 4), "0 1 0 0 1 0 0 0 0 0 1");
        Check.due("what 4 heard", Check.written(x, 4), "B>:b");
        Check.due("crashes", x.count(4), 1);
        Check.due("sent", x.count(3), 2);
        // A sender among senders has no crash either.
        PathWords y = new PathWords();
        Check.join(y, 0, 1, 0, 2, 1, 2);
        for (int s = 0; s < 3; s++) {
            Check.send(y, s, "Q>:q");
        }
        y.run(1);
        Check.due("no crash", y.count(4), 0);
        Check.due("sent", y.count(3), 3);
        // Three at once are one crash.
        PathWords z = new PathWords();
        Check.join(z, 0, 3, 1, 3, 2, 3);
        for (int s = 0; s < 3; s++) {
            Check.send(z, s, "Q>:q");
        }
        z.run(1);
        Check.due("one crash", z.count(4), 1);
        Check.due("of 3", z.heard(3, 7), 1);
    }

    private static void own() {
        PathWords x = new PathWords();
        Check.join(x, 0, 1);
        Check.send(x, 0, "B>B:a");
        Check.send(x, 0, "Q>X,B*,B:b");
        Check.send(x, 0, "Q>B-3*:c");
        Check.send(x, 0, "Q>BB*,C:d");
        x.run(4);
        Check.due("tallies", Check.tallies(x, 1), "0 4 3 0 0 0 1 0 0 0 1");
        Check.due("own is not repeated", x.heard(1, 0), 0);
        // Its own call changes what is its own.
        Check.call(x, 1, "Q");
        Check.send(x, 0, "Q>Q:e");
        x.run(1);
        Check.due("own", x.heard(1, 2), 4);
    }

    private static void doubles() {
        PathWords x = new PathWords();
        Check.join(x, 0, 1);
        Check.send(x, 0, "Q>B:a");
        x.run(2);
        Check.due("0 hears its repeat as a double", Check.tallies(x, 0), "1 1 0 1 0 0 0 0 0 0 1");
        Check.send(x, 0, "Q>C,D:a");
        Check.send(x, 0, "Q>:b");
        Check.send(x, 0, "R>:a");
        x.run(3);
        Check.due("1", Check.tallies(x, 1), "1 4 0 1 2 1 0 0 0 0 3");
        Check.due("the last is a double as well as others", Check.written(x, 1), "R>:a");
        // Own goes ahead of double.
        Check.call(x, 1, "R");
        Check.send(x, 0, "R>:a");
        x.run(1);
        Check.due("own", x.heard(1, 2), 1);
        Check.due("double", x.heard(1, 3), 1);
    }

    /** Sends a packet again, so many ticks after it was sent first: whether it is a double. */
    private static int doubleAfter(int window, int ticks) {
        PathWords x = new PathWords();
        x.set(1, 2, window);
        Check.join(x, 0, 1);
        Check.send(x, 0, "Q>:a");
        for (int i = 0; i < ticks; i += 50) {
            x.run(Math.min(50, ticks - i));
        }
        Check.due("it goes only as the next is heard", x.heard(1, 10), 1);
        Check.send(x, 0, "Q>:a");
        x.run(1);
        Check.due("knows one again", x.heard(1, 10), 1);
        Check.due("a double or an end", x.heard(1, 3) + x.heard(1, 4), 2);
        return x.heard(1, 3);
    }

    private static void windows() {
        Check.due("10 ticks ago", doubleAfter(10, 10), 1);
        Check.due("11 ticks ago", doubleAfter(10, 11), 0);
        Check.due("60 ticks ago", doubleAfter(60, 60), 1);
        Check.due("61 ticks ago", doubleAfter(60, 61), 0);
        Check.due("1 tick ago", doubleAfter(0, 1), 0);
        Check.due("1 tick ago", doubleAfter(1, 1), 1);
        // A double does not make it known anew.
        PathWords x = new PathWords();
        Check.join(x, 0, 1);
        Check.send(x, 0, "Q>:a");
        x.run(8);
        Check.send(x, 0, "Q>:a");
        x.run(8);
        Check.due("a double", x.heard(1, 3), 1);
        Check.send(x, 0, "Q>:a");
        x.run(1);
        Check.due("16 ticks after the first", x.heard(1, 4), 2);
        // What is too old goes even as an own packet is heard, but not as one is sent.
        PathWords y = new PathWords();
        Check.join(y, 0, 1);
        Check.send(y, 0, "Q>:a");
        y.run(20);
        Check.send(y, 1, "B>:b");
        y.run(1);
        Check.due("knows both", y.heard(1, 10), 2);
        Check.send(y, 0, "B>:c");
        y.run(1);
        Check.due("knows what it sent alone", y.heard(1, 10), 1);
    }

    private static void knowsSixteen() {
        PathWords x = new PathWords();
        x.set(1, 2, 60);
        Check.join(x, 0, 1);
        for (int i = 0; i < 17; i++) {
            Check.send(x, 0, "Q>:" + (char) ('a' + i));
            x.run(1);
            Check.due("knows", x.heard(1, 10), Math.min(16, i + 1));
        }
        Check.send(x, 0, "Q>:b");
        x.run(1);
        Check.due("the second is known", x.heard(1, 3), 1);
        Check.send(x, 0, "Q>:a");
        x.run(1);
        Check.due("the first went", x.heard(1, 4), 18);
    }

    private static void ends() {
        PathWords x = new PathWords();
        Check.join(x, 0, 1);
        Check.send(x, 0, "Q>:a");
        Check.send(x, 0, "Q>X*:b");
        Check.send(x, 0, "Q>X-2*,Y*:c");
        Check.send(x, 0, "Q>X*,Y:d");
        x.run(4);
        Check.due("tallies", Check.tallies(x, 1), "0 4 0 0 3 0 1 0 0 0 4");
    }

    /** What station 0 hears of a packet that it sends, if station 1 repeats it. */
    private static String repeat(PathWords x, String packet) {
        int repeated = x.heard(1, 5);
        int heard = x.heard(0, 1);
        Check.send(x, 0, packet);
        x.run(4);
        Check.due("repeated " + packet, x.heard(1, 5) - repeated, x.heard(0, 1) - heard);
        return x.heard(0, 1) == heard ? "foreign" : Check.written(x, 0);
    }

    private static PathWords pair() {
        PathWords x = new PathWords();
        x.set(0, 2, 0);
        x.set(1, 2, 0);
        Check.join(x, 0, 1);
        return x;
    }

    private static void repeatedByCall() {
        PathWords x = pair();
        Check.due("its call", repeat(x, "Q>B:a"), "Q>B*:a");
        Check.due("its call with hops", repeat(x, "Q>B-3:a"), "Q>B*:a");
        Check.due("the first that is not spent", repeat(x, "Q>X*,B,B:a"), "Q>X*,B*,B:a");
        Check.due("a spent word behind", repeat(x, "Q>B,X-2*:a"), "Q>B*,X-2*:a");
        Check.due("only the first", repeat(x, "Q>X,B:a"), "foreign");
        Check.flood(x, 1, "B");
        Check.standIn(x, 1, "B");
        Check.due("its call goes ahead of a flood", repeat(x, "Q>B-3:a"), "Q>B*:a");
    }

    private static void repeatedByStandIn() {
        PathWords x = pair();
        Check.standIn(x, 1, "RL");
        Check.type(x, "W");
        Check.due("a second one", x.name(1, 1), 2);
        Check.due("the first stand-in", repeat(x, "Q>RL:a"), "Q>B*:a");
        Check.due("the second stand-in", repeat(x, "Q>W,RL:a"), "Q>B*,RL:a");
        Check.due("a stand-in with hops", repeat(x, "Q>W-1:a"), "foreign");
        Check.due("another", repeat(x, "Q>R:a"), "foreign");
        Check.call(x, 1, "XYZ");
        Check.due("the new call", repeat(x, "Q>W:a"), "Q>XYZ*:a");
        Check.due("the old call", repeat(x, "Q>B:a"), "foreign");
    }

    private static void repeatedByFlood() {
        PathWords x = pair();
        Check.flood(x, 1, "W");
        Check.type(x, "V");
        Check.due("a second one", x.name(1, 2), 2);
        Check.due("one hop", repeat(x, "Q>W-1:a"), "Q>B*:a");
        Check.due("two hops", repeat(x, "Q>V-2:a"), "Q>B*,V-1:a");
        Check.due("three hops", repeat(x, "Q>X*,W-3,Y:a"), "Q>X*,B*,W-2,Y:a");
        Check.due("more than the limit", repeat(x, "Q>W-7:a"), "Q>B*,W-2:a");
        Check.due("no hops", repeat(x, "Q>W:a"), "foreign");
        x.set(1, 0, 1);
        Check.due("held to one", repeat(x, "Q>W-7:a"), "Q>B*:a");
        x.set(1, 0, 7);
        Check.due("held to seven", repeat(x, "Q>W-7:a"), "Q>B*,W-6:a");
        Check.standIn(x, 1, "W");
        Check.due("a stand-in too, with hops", repeat(x, "Q>W-2:a"), "Q>B*,W-1:a");
        Check.due("a stand-in too, without", repeat(x, "Q>W:a"), "Q>B*:a");
    }

    private static void eightWords() {
        PathWords x = new PathWords();
        for (int s = 1; s < 6; s++) {
            Check.join(x, s - 1, s);
            Check.flood(x, s, "WWW");
            x.set(s, 0, 7);
        }
        Check.send(x, 0, "AAA>XXX-1*,XXX-2*,XXX-3*,XXX-4*,WWW-7:a");
        x.run(1);
        Check.due("five words", Check.written(x, 1), "AAA>XXX-1*,XXX-2*,XXX-3*,XXX-4*,WWW-7:a");
        x.run(1);
        Check.due("six", Check.written(x, 2), "AAA>XXX-1*,XXX-2*,XXX-3*,XXX-4*,B*,WWW-6:a");
        x.run(1);
        Check.due("seven", Check.written(x, 3), "AAA>XXX-1*,XXX-2*,XXX-3*,XXX-4*,B*,C*,WWW-5:a");
        x.run(1);
        Check.due("eight", Check.written(x, 4), "AAA>XXX-1*,XXX-2*,XXX-3*,XXX-4*,B*,C*,D*,WWW-4:a");
        x.run(6);
        // Station 4 had eight words and put none ahead.
        Check.due("eight", Check.written(x, 5), "AAA>XXX-1*,XXX-2*,XXX-3*,XXX-4*,B*,C*,D*,WWW-3:a");
        Check.due("repeated", x.heard(4, 5), 1);
        Check.due("repeated by the last", x.heard(5, 5), 1);
        Check.due("what 4 heard last", Check.written(x, 4), "AAA>XXX-1*,XXX-2*,XXX-3*,XXX-4*,B*,C*,D*,WWW-2:a");
        Check.due("a double, as its call is not in it", x.heard(4, 3), 1);
        for (int s = 0; s < 6; s++) {
            Check.due("none is lost", x.heard(s, 8), 0);
        }
    }

    private static void delays() {
        for (int delay = 1; delay <= 3; delay++) {
            PathWords x = new PathWords();
            Check.join(x, 0, 1);
            x.set(1, 1, delay);
            x.run(5);
            Check.send(x, 0, "A>B:a");
            x.run(delay);
            Check.due("kept", x.heard(1, 9), 1);
            Check.due("not sent yet", x.heard(1, 0), 0);
            Check.due("sent then", x.run(1), 0);
            Check.due("heard at", x.last(0, 2), 5 + delay);
            Check.due("it is due as it was kept", x.last(1, 2), 5);
        }
        // The delay of the tick at which it was heard counts.
        PathWords y = new PathWords();
        Check.join(y, 0, 1);
        y.set(1, 1, 3);
        Check.send(y, 0, "A>B:a");
        y.run(1);
        y.set(1, 1, 1);
        Check.due("kept still", y.run(2), 1);
        Check.due("sent", y.run(1), 0);
    }

    private static void keptLongestGoesFirst() {
        PathWords x = new PathWords();
        Check.join(x, 0, 1);
        x.set(1, 1, 2);
        Check.send(x, 0, "A>B:a");
        x.run(1);
        x.set(1, 1, 1);
        Check.send(x, 0, "A>B:b");
        x.run(1);
        // Both are due at tick 2.
        x.run(1);
        Check.due("the first kept", Check.written(x, 0), "A>B*:a");
        x.run(1);
        Check.due("the second", Check.written(x, 0), "A>B*:b");
        // What is not due yet waits, though it was kept longer.
        x.set(1, 1, 3);
        Check.send(x, 0, "A>B:c");
        x.run(1);
        Check.send(x, 1, "B>:d");
        Check.send(x, 1, "B>:e");
        Check.send(x, 1, "B>:f");
        x.run(1);
        Check.due("d", Check.written(x, 0), "B>:d");
        x.run(1);
        Check.due("e", Check.written(x, 0), "B>:e");
        x.run(1);
        Check.due("c is due and was kept longest", Check.written(x, 0), "A>B*:c");
        x.run(1);
        Check.due("f", Check.written(x, 0), "B>:f");
    }

    private static void laterCallsAndNearness() {
        PathWords x = new PathWords();
        Check.join(x, 0, 1, 1, 2);
        Check.send(x, 0, "A>B,C:a");
        x.run(1);
        Check.call(x, 1, "X");
        x.near(1, 2, 0);
        x.near(1, 3, 1);
        x.run(1);
        Check.due("what is kept stays as it was", Check.written(x, 3), "A>B*,C:a");
        Check.due("2 is not near any more", x.heard(2, 1), 0);
        Check.due("no station has that call", x.trail(3, 0), PathWords.NONE);
    }

    private static void heardRefusals() {
        PathWords x = new PathWords();
        for (int s : NO_STATIONS) {
            Check.due("heard of no station", x.heard(s, 99), PathWords.UNKNOWN);
        }
        int[] outside = {-1, 11, 12, Integer.MIN_VALUE, Integer.MAX_VALUE};
        for (int what : outside) {
            Check.due("heard(0, " + what + ")", x.heard(0, what), PathWords.OUTSIDE);
        }
    }

    private static void writing() {
        PathWords x = new PathWords();
        Check.join(x, 0, 1);
        Check.due("nothing heard yet", x.written(1, -1), PathWords.STATE);
        Check.due("nothing heard yet", x.written(1, 99), PathWords.STATE);
        String[] packets = {
            "A>:z", "ABC>AZ-7*,G,CCC*,Z-1:abcd", "ZZZ>AAA-1*,BBB-2*,CCC-3*,DDD-4*,EEE-5*:z", "A>X:aa", "A>X:aaz",
        };
        for (String packet : packets) {
            Check.send(x, 0, packet);
            x.run(1);
            Check.due("written", Check.written(x, 1), packet);
            int signs = packet.length();
            Check.due("how many", x.written(1, -1), signs);
            Check.due("the last", x.written(1, signs - 1), packet.charAt(signs - 1));
            Check.due("behind the last", x.written(1, signs), PathWords.NONE);
            Check.due("far behind", x.written(1, Integer.MAX_VALUE), PathWords.NONE);
            Check.due("below -1", x.written(1, -2), PathWords.OUTSIDE);
            Check.due("far below", x.written(1, Integer.MIN_VALUE), PathWords.OUTSIDE);
        }
        Check.due("of the sender", x.written(0, 0), PathWords.STATE);
        Check.due("outside comes ahead of state", x.written(0, -2), PathWords.OUTSIDE);
        for (int s : NO_STATIONS) {
            Check.due("written of no station", x.written(s, -2), PathWords.UNKNOWN);
        }
        longestWriting();
    }

    /** What is repeated can be longer than what the pad holds. */
    private static void longestWriting() {
        PathWords x = new PathWords();
        String[] calls = {"AAA", "BBB", "CCC", "DDD", "EEE", "FFF"};
        for (int s = 0; s < 6; s++) {
            Check.call(x, s, calls[s]);
            Check.flood(x, s, "WWW");
            x.set(s, 0, 7);
            if (s > 0) {
                Check.join(x, s - 1, s);
            }
        }
        Check.send(x, 0, "AAA>XXX-1*,XXX-2*,XXX-3*,XXX-4*,WWW-7:a");
        x.run(4);
        String due = "AAA>XXX-1*,XXX-2*,XXX-3*,XXX-4*,BBB*,CCC*,DDD*,WWW-4:a";
        Check.due("written", Check.written(x, 4), due);
        Check.due("signs", x.written(4, -1), due.length());
    }

    private static void lasts() {
        PathWords x = new PathWords();
        Check.join(x, 0, 1);
        Check.due("nothing heard yet", x.last(1, 0), PathWords.STATE);
        Check.due("outside comes ahead of state", x.last(1, 4), PathWords.OUTSIDE);
        Check.due("outside comes ahead of state", x.last(1, -1), PathWords.OUTSIDE);
        x.run(7);
        last(x, "Q>:a", 0, 0, PathWords.NONE);
        last(x, "Q>X*,Y-3*:b", 2, 2, PathWords.NONE);
        last(x, "Q>X*,Y,Z-4:c", 3, 1, 0);
        last(x, "Q>X-3*,Y-7,Z-4*,W:d", 4, 2, 7);
        last(x, "B>B-2:e", 1, 0, 2);
        last(x, "B>B-3:e", 1, 0, 3);
        int[] outside = {-1, 4, Integer.MIN_VALUE, Integer.MAX_VALUE};
        for (int what : outside) {
            Check.due("last(1, " + what + ")", x.last(1, what), PathWords.OUTSIDE);
        }
        for (int s : NO_STATIONS) {
            Check.due("last of no station", x.last(s, 4), PathWords.UNKNOWN);
        }
        // A crash is not heard, and the last stays.
        Check.join(x, 2, 1);
        Check.send(x, 0, "Q>:x");
        Check.send(x, 2, "Q>:y");
        x.run(1);
        Check.due("the last stays", Check.written(x, 1), "B>B-3:e");
        Check.due("its tick stays", x.last(1, 2), 12);
    }

    private static void last(PathWords x, String packet, int words, int spent, int hops) {
        int tick = x.count(0);
        Check.send(x, 0, packet);
        x.run(1);
        Check.due("words of " + packet, x.last(1, 0), words);
        Check.due("spent of " + packet, x.last(1, 1), spent);
        Check.due("tick of " + packet, x.last(1, 2), tick);
        Check.due("hops of " + packet, x.last(1, 3), hops);
    }

    private static void trails() {
        PathWords x = new PathWords();
        Check.join(x, 0, 1);
        Check.due("nothing heard yet", x.trail(1, -2), PathWords.STATE);
        for (int s : NO_STATIONS) {
            Check.due("trail of no station", x.trail(s, -2), PathWords.UNKNOWN);
        }
        Check.send(x, 0, "Q>F*,C,X-2*,A*,D:a");
        x.run(1);
        Check.due("how many", x.trail(1, -1), 3);
        Check.due("F", x.trail(1, 0), 5);
        Check.due("X is no station", x.trail(1, 1), PathWords.NONE);
        Check.due("A", x.trail(1, 2), 0);
        Check.due("none such", x.trail(1, 3), PathWords.NONE);
        Check.due("none such", x.trail(1, Integer.MAX_VALUE), PathWords.NONE);
        Check.due("none such", x.trail(1, -2), PathWords.NONE);
        Check.due("none such", x.trail(1, Integer.MIN_VALUE), PathWords.NONE);
        Check.call(x, 4, "X");
        Check.call(x, 5, "Y");
        Check.due("4 is X now", x.trail(1, 1), 4);
        Check.due("none is F now", x.trail(1, 0), PathWords.NONE);
        Check.send(x, 0, "Q>C:b");
        x.run(1);
        Check.due("none is spent", x.trail(1, -1), 0);
        Check.due("none is spent", x.trail(1, 0), PathWords.NONE);
    }
}
