/** The edges of promises 18 to 20: image, restore, count. */
public final class ImageEdgeTest {
    private ImageEdgeTest() {
    }

    public static void main(String[] args) throws ReflectiveOperationException {
        Edges.run(ImageEdgeTest.class, 18, 20);
    }

    /** Stations 0 and 1 are near each other. */
    private static PathWords pair() {
        PathWords x = new PathWords();
        x.near(0, 1, 1);
        return x;
    }

    // ---- image

    static void p18NoImageBelow0OrAbove1() {
        for (int k : Edges.beyond(0, 1)) {
            PathWords x = new PathWords();
            Check.due("image(" + k + ")", x.image(k), PathWords.OUTSIDE);
            Check.due("which are kept", x.count(6), 0);
            Check.due("restore(0)", x.restore(0), PathWords.STATE);
            Check.due("restore(1)", x.restore(1), PathWords.STATE);
        }
    }

    static void p18ImagesOf0And1() {
        PathWords x = new PathWords();
        Check.due("image(0)", x.image(0), 1);
        Check.due("the first", x.count(6), 1);
        Check.due("image(1)", x.image(1), 1);
        Check.due("both", x.count(6), 3);
    }

    static void p18InPlaceOfWhatWasKeptThere() {
        PathWords x = new PathWords();
        for (int k = 0; k <= 1; k++) {
            x.run(1);
            Check.due("image", x.image(k), 1);
            x.run(4);
            Check.due("image again", x.image(k), 1);
            x.run(3);
            Check.due("restore", x.restore(k), 1);
            Check.due("now", x.count(0), 5 * k + 5);
        }
        Check.due("the other one stays", x.restore(0), 1);
        Check.due("now", x.count(0), 5);
    }

    static void p18AnImageChangesNothingElse() {
        PathWords x = busy();
        PathWords y = busy();
        x.image(0);
        x.image(1);
        for (int what = 0; what <= 5; what++) {
            Check.due("count(" + what + ")", x.count(what), y.count(what));
        }
        for (int i = 0; i < 3; i++) {
            Check.due("run", x.run(1), y.run(1));
            for (int s = 0; s < 6; s++) {
                Check.due("of " + s, told(x, s), told(y, s));
            }
        }
    }

    static void p18WhatComesLaterIsNotInIt() {
        PathWords x = pair();
        Check.send(x, 0, "Q>B:a");
        x.image(0);
        Check.send(x, 0, "Q>B:b");
        Check.send(x, 1, "R>:c");
        Check.standIn(x, 1, "S");
        Check.call(x, 1, "X");
        x.near(0, 1, 0);
        x.set(1, 1, 3);
        x.run(20);
        x.restore(0);
        Check.due("keeps", x.heard(0, 9), 1);
        Check.due("knows", x.heard(0, 10), 1);
        Check.due("keeps", x.heard(1, 9), 0);
        Check.due("run", x.run(2), 0);
        Check.due("what 0 heard", Check.written(x, 0), "Q>B*:a");
    }

    static void p18ThePadIsNotInIt() {
        PathWords x = new PathWords();
        Check.type(x, "FIRST");
        x.image(0);
        Check.due("the pad stays", x.count(1), 5);
        Check.type(x, "PAD");
        x.restore(0);
        Check.due("the pad stays", x.count(1), 3);
        Check.due("as a name", x.name(0, 0), 1);
    }

    static void p18AnImageOfARestoredOne() {
        PathWords x = new PathWords();
        x.run(5);
        x.image(0);
        x.run(5);
        x.restore(0);
        x.image(1);
        x.run(5);
        x.image(0);
        x.restore(1);
        Check.due("now", x.count(0), 5);
        x.restore(0);
        Check.due("now", x.count(0), 10);
    }

    // ---- restore

    static void p19NoImageBelow0OrAbove1() {
        for (int k : Edges.beyond(0, 1)) {
            PathWords x = new PathWords();
            Check.due("ahead of state", x.restore(k), PathWords.OUTSIDE);
            x.image(0);
            x.image(1);
            x.run(3);
            Check.due("restore(" + k + ")", x.restore(k), PathWords.OUTSIDE);
            Check.due("now", x.count(0), 3);
        }
    }

    static void p19OneThatWasNeverKeptIsState() {
        for (int k = 0; k <= 1; k++) {
            PathWords x = new PathWords();
            x.run(3);
            Check.due("restore(" + k + ")", x.restore(k), PathWords.STATE);
            x.image(1 - k);
            x.run(1);
            Check.due("though the other one was", x.restore(k), PathWords.STATE);
            Check.due("now", x.count(0), 4);
            Check.due("kept", x.count(6), 2 - k);
            Check.due("the other one", x.restore(1 - k), 1);
            Check.due("now", x.count(0), 3);
        }
    }

    static void p19TheImageStays() {
        PathWords x = pair();
        x.image(0);
        for (int i = 0; i < 3; i++) {
            Check.send(x, 0, "Q>B:a");
            x.run(7);
            Check.due("restore", x.restore(0), 1);
            Check.due("kept", x.count(6), 1);
            Check.due("now", x.count(0), 0);
            Check.due("sent", x.count(3), 0);
            Check.due("tallies", Check.tallies(x, 1), "0 0 0 0 0 0 0 0 0 0 0");
        }
    }

    static void p19ImagesAreNotRestored() {
        PathWords x = new PathWords();
        x.image(0);
        x.run(1);
        x.image(1);
        Check.due("restore(0)", x.restore(0), 1);
        Check.due("the second is kept though it came later", x.count(6), 3);
        Check.due("restore(1)", x.restore(1), 1);
        Check.due("now", x.count(0), 1);
    }

    static void p19NowComesBack() {
        PathWords x = pair();
        x.run(7);
        x.image(0);
        x.run(9);
        x.restore(0);
        Check.due("now", x.count(0), 7);
        Check.send(x, 0, "Q>:a");
        x.run(1);
        Check.due("heard at", x.last(1, 2), 7);
    }

    static void p19WhoIsNearComesBack() {
        PathWords x = pair();
        x.near(2, 5, 1);
        x.image(0);
        x.near(0, 1, 0);
        x.near(3, 4, 1);
        x.restore(0);
        Check.due("pairs", x.count(5), 2);
        Check.due("0 and 1", x.near(0, 1, 1), 1);
        Check.due("2 and 5", x.near(5, 2, 1), 1);
        Check.due("3 and 4", x.near(3, 4, 0), 0);
        Check.due("pairs", x.count(5), 2);
    }

    static void p19CallsComeBack() {
        PathWords x = new PathWords();
        Check.call(x, 3, "XYZ");
        x.image(0);
        Check.call(x, 3, "Q");
        Check.call(x, 0, "XYZ");
        x.restore(0);
        Check.type(x, "XYZ");
        Check.due("XYZ is that of 3", x.name(0, 0), PathWords.STATE);
        Check.due("XYZ is that of 3", x.name(3, 0), 1);
        Check.call(x, 1, "Q");
    }

    static void p19StandInsAndFloodsComeBack() {
        for (int what = 1; what <= 2; what++) {
            for (int had = 0; had <= 2; had++) {
                PathWords x = pair();
                for (int i = 0; i < had; i++) {
                    Check.type(x, "W" + (char) ('A' + i));
                    x.name(1, what);
                }
                x.image(0);
                x.forget(1, what);
                Check.type(x, "V");
                x.name(1, what);
                x.restore(0);
                String[] names = {"WA", "WB", "V"};
                for (int i = 0; i < 3; i++) {
                    String packet = "Q>" + names[i] + (what == 2 ? "-2" : "") + ":" + (char) ('a' + i);
                    int repeated = x.heard(1, 5);
                    Check.send(x, 0, packet);
                    x.run(3);
                    Check.due(packet + " of " + had, x.heard(1, 5) - repeated, i < had ? 1 : 0);
                }
                Check.due("how many", x.forget(1, what), had);
            }
        }
    }

    static void p19SettingsComeBack() {
        int[] then = {7, 3, 60};
        int[] later = {1, 2, 0};
        PathWords x = new PathWords();
        for (int s = 0; s < 6; s++) {
            for (int what = 0; what <= 2; what++) {
                x.set(s, what, then[what]);
            }
        }
        x.image(1);
        for (int s = 0; s < 6; s++) {
            for (int what = 0; what <= 2; what++) {
                x.set(s, what, later[what]);
            }
        }
        x.restore(1);
        for (int s = 0; s < 6; s++) {
            for (int what = 0; what <= 2; what++) {
                Check.due("set(" + s + ", " + what + ")", x.set(s, what, then[what]), then[what]);
            }
        }
    }

    static void p19TwelveKeptComeBackInTheirOrder() {
        PathWords x = pair();
        for (int i = 0; i < 12; i++) {
            Check.send(x, 0, "Q>X-1*:" + (char) ('a' + i));
        }
        x.image(0);
        x.run(12);
        for (int i = 0; i < 12; i++) {
            Check.send(x, 0, "R>Y:z");
        }
        x.restore(0);
        Check.due("kept", x.count(2), 12);
        Check.type(x, "Q>:z");
        Check.due("full", x.send(0), PathWords.FULL);
        for (int i = 0; i < 12; i++) {
            x.run(1);
            Check.due("the text", x.written(1, 7), 'a' + i);
        }
        Check.due("all of it", Check.written(x, 1), "Q>X-1*:l");
    }

    static void p19WhenWhatIsKeptIsDueComesBack() {
        PathWords x = pair();
        x.set(1, 1, 3);
        Check.send(x, 0, "Q>B:a");
        x.run(2);
        x.image(0);
        x.run(5);
        x.restore(0);
        Check.due("not at 2", x.run(1), 1);
        Check.due("at 3", x.run(1), 0);
        Check.due("heard at", x.last(0, 2), 3);
    }

    static void p19SixteenKnownComeBackInTheirOrder() {
        PathWords x = pair();
        x.set(1, 2, 60);
        for (int i = 0; i < 16; i++) {
            Check.send(x, 0, "Q>:" + (char) ('a' + i));
            x.run(1);
        }
        x.image(0);
        for (int i = 0; i < 4; i++) {
            Check.send(x, 0, "R>:" + (char) ('a' + i));
            x.run(1);
        }
        x.restore(0);
        Check.due("knows", x.heard(1, 10), 16);
        Check.send(x, 0, "Q>:a");
        x.run(1);
        Check.due("the first", x.heard(1, 3), 1);
        Check.send(x, 0, "R>:a");
        x.run(1);
        Check.due("no double", x.heard(1, 3), 1);
        Check.send(x, 0, "Q>:b");
        Check.send(x, 0, "Q>:a");
        x.run(2);
        Check.due("the first went", x.heard(1, 3), 2);
    }

    static void p19WhenWhatIsKnownCameComesBack() {
        for (int later = 10; later <= 11; later++) {
            PathWords x = pair();
            x.run(4);
            Check.send(x, 0, "Q>:a");
            x.run(1);
            x.image(0);
            x.run(30);
            Check.send(x, 0, "Q>:a");
            x.run(1);
            x.restore(0);
            x.run(later - 1);
            Check.send(x, 0, "Q>:a");
            x.run(1);
            Check.due(later + " ticks ago", x.heard(1, 3), later == 10 ? 1 : 0);
        }
    }

    static void p19TalliesAndTheLastComeBack() {
        PathWords x = busy();
        x.image(0);
        String[] before = new String[6];
        for (int s = 0; s < 6; s++) {
            before[s] = told(x, s);
        }
        Check.send(x, 3, "Z>B,C:z");
        x.run(9);
        x.restore(0);
        for (int s = 0; s < 6; s++) {
            Check.due("of " + s, told(x, s), before[s]);
        }
    }

    static void p19TheLastComesBack() {
        PathWords x = pair();
        x.run(3);
        Check.send(x, 0, "QR>A-2*,X-3,F*:abc");
        x.run(1);
        x.image(0);
        x.run(2);
        Check.send(x, 0, "S>C*,Y:d");
        x.run(1);
        Check.due("another", Check.written(x, 1), "S>C*,Y:d");
        x.image(1);
        x.restore(0);
        Check.due("the last", Check.written(x, 1), "QR>A-2*,X-3,F*:abc");
        int[] due = {3, 2, 3, 3};
        for (int what = 0; what <= 3; what++) {
            Check.due("last(1, " + what + ")", x.last(1, what), due[what]);
        }
        Check.due("trail", x.trail(1, 1), 5);
        x.restore(1);
        Check.due("the other", Check.written(x, 1), "S>C*,Y:d");
        Check.due("its tick", x.last(1, 2), 6);
    }

    static void p19WhoseItIsThatIsKnownComesBack() {
        PathWords x = pair();
        Check.send(x, 0, "Q>:a");
        x.run(1);
        x.image(0);
        x.set(1, 2, 0);
        Check.send(x, 0, "R>:b");
        x.run(1);
        Check.due("R alone", x.heard(1, 10), 1);
        x.restore(0);
        String[] packets = {"R>:a", "Q>:b", "R>:b"};
        for (String packet : packets) {
            Check.send(x, 0, packet);
            x.run(1);
            Check.due("no double", x.heard(1, 3), 0);
        }
        Check.send(x, 0, "Q>:a");
        x.run(1);
        Check.due("a double", x.heard(1, 3), 1);
    }

    private static String told(PathWords x, int s) {
        return Check.tallies(x, s) + " " + x.last(s, 0) + " " + x.last(s, 1) + " " + x.last(s, 2) + " " + x.last(s, 3)
                + " " + x.trail(s, 0) + " " + x.written(s, -1) + " " + x.written(s, 0) + " " + x.written(s, 2);
    }

    static void p19HeardNoneYetComesBack() {
        PathWords x = pair();
        x.image(0);
        Check.send(x, 0, "Q>A*:a");
        x.run(1);
        Check.due("heard", x.written(1, -1), 6);
        x.restore(0);
        Check.due("written", x.written(1, -1), PathWords.STATE);
        Check.due("last", x.last(1, 2), PathWords.STATE);
        Check.due("trail", x.trail(1, 0), PathWords.STATE);
    }

    static void p19WhatIsRestoredIsNotTheImageItself() {
        PathWords x = pair();
        Check.send(x, 0, "Q>:a");
        x.image(0);
        x.restore(0);
        x.run(5);
        x.set(0, 0, 7);
        x.near(0, 1, 0);
        x.restore(0);
        Check.due("kept", x.count(2), 1);
        Check.due("now", x.count(0), 0);
        Check.due("limit", x.set(0, 0, 3), 3);
        Check.due("pairs", x.count(5), 1);
    }

    static void p19AnEmptyOneInPlaceOfAFullOne() {
        PathWords x = new PathWords();
        x.image(0);
        Check.join(x, 0, 1, 1, 2, 2, 3, 3, 4, 4, 5);
        for (int s = 0; s < 6; s++) {
            Check.send(x, s, "Q>:a");
            Check.send(x, s, "Q>:b");
        }
        x.run(1);
        x.restore(0);
        for (int what = 0; what <= 5; what++) {
            Check.due("count(" + what + ")", x.count(what), 0);
        }
        for (int s = 0; s < 6; s++) {
            Check.due("tallies of " + s, Check.tallies(x, s), "0 0 0 0 0 0 0 0 0 0 0");
        }
        Check.due("run", x.run(5), 0);
        Check.due("sent", x.count(3), 0);
    }

    // ---- count

    private static PathWords busy() {
        PathWords x = new PathWords();
        Check.join(x, 0, 1, 1, 2, 2, 3, 0, 2);
        Check.flood(x, 1, "W");
        Check.flood(x, 2, "W");
        x.set(2, 1, 3);
        Check.send(x, 0, "A>W-3:a");
        Check.send(x, 0, "A>W-3:b");
        Check.send(x, 3, "D>C,B:c");
        x.run(3);
        return x;
    }

    static void p20WhatBelow0OrAbove6IsOutside() {
        for (int what : Edges.beyond(0, 6)) {
            Check.due("count(" + what + ")", busy().count(what), PathWords.OUTSIDE);
            Check.due("count(" + what + ")", new PathWords().count(what), PathWords.OUTSIDE);
        }
    }

    static void p20NowFrom0On() {
        PathWords x = new PathWords();
        Check.due("now", x.count(0), 0);
        x.run(1);
        Check.due("now", x.count(0), 1);
        x.run(50);
        Check.due("now", x.count(0), 51);
        x.run(51);
        Check.due("refused", x.count(0), 51);
    }

    static void p20SignsFrom0To40() {
        PathWords x = new PathWords();
        for (int i = 0; i <= 40; i++) {
            Check.due("signs", x.count(1), i);
            x.say('A');
        }
        Check.due("refused", x.count(1), 40);
    }

    static void p20KeptByAllUpTo72() {
        PathWords x = new PathWords();
        x.near(0, 1, 1);
        Check.type(x, "Q>:a");
        for (int s = 0; s < 6; s++) {
            for (int i = 0; i < 12; i++) {
                if (s > 0 || i > 0) {
                    sayPacket(x);
                }
                Check.due("send", x.send(s), i + 1);
            }
        }
        Check.due("kept", x.count(2), 72);
        Check.due("run", x.run(1), 66);
        Check.due("kept", x.count(2), 66);
        Check.due("sent", x.count(3), 6);
        Check.due("crashes", x.count(4), 0);
    }

    private static void sayPacket(PathWords x) {
        x.say('Q');
        x.say('>');
        x.say(':');
        x.say('a');
    }

    static void p20SentAndCrashesOfAll() {
        PathWords x = new PathWords();
        Check.join(x, 0, 1, 1, 2, 3, 4, 4, 5);
        int[] senders = {0, 2, 3, 5};
        for (int s : senders) {
            Check.send(x, s, "Q>:a");
            Check.send(x, s, "Q>:b");
        }
        x.run(1);
        Check.due("sent", x.count(3), 4);
        Check.due("crashes", x.count(4), 2);
        x.run(1);
        Check.due("sent", x.count(3), 8);
        Check.due("crashes", x.count(4), 4);
    }

    static void p20PairsFrom0To15() {
        PathWords x = new PathWords();
        int pairs = 0;
        Check.due("pairs", x.count(5), 0);
        for (int one = 5; one >= 0; one--) {
            for (int other = 0; other < one; other++) {
                x.near(one, other, 1);
                x.near(other, one, 1);
                pairs++;
                Check.due("pairs", x.count(5), pairs);
            }
        }
        x.near(0, 5, 0);
        Check.due("pairs", x.count(5), 14);
    }

    static void p20WhichImagesAreKept() {
        PathWords x = new PathWords();
        Check.due("none", x.count(6), 0);
        x.image(1);
        Check.due("the second", x.count(6), 2);
        x.image(1);
        Check.due("the second again", x.count(6), 2);
        x.image(0);
        Check.due("both", x.count(6), 3);
        x.image(2);
        x.image(-1);
        Check.due("refused", x.count(6), 3);
    }
}
