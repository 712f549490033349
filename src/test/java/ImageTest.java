/** Promises 18 to 20: image, restore, count. */
public final class ImageTest {
    private ImageTest() {
    }

    public static void main(String[] args) {
        imagesAreKept();
        allComesBack();
        settingsComeBack();
        rowsComeBack();
        whatIsKeptIsACopy();
        refusals();
        counting();
        Check.end("ImageTest");
    }

    private static PathWords busy() {
        PathWords x = new PathWords();
        Check.join(x, 0, 1, 1, 2, 2, 3, 0, 2);
        Check.flood(x, 1, "W");
        Check.flood(x, 2, "W");
        x.set(2, 1, 3);
        Check.send(x, 0, "A>W-3:a");
        Check.send(x, 0, "A>W-3:b");
        Check.send(x, 3, "D>C,B:c");
        x.run(3);
        return x;
    }

    private static void imagesAreKept() {
        PathWords x = new PathWords();
        Check.due("none", x.count(6), 0);
        Check.due("image(1)", x.image(1), 1);
        Check.due("the second", x.count(6), 2);
        Check.due("restore(0)", x.restore(0), PathWords.STATE);
        Check.due("restore(1)", x.restore(1), 1);
        Check.due("it stays", x.count(6), 2);
        Check.due("image(0)", x.image(0), 1);
        Check.due("both", x.count(6), 3);
        Check.due("again", x.restore(1), 1);
        Check.due("both", x.count(6), 3);
        x.run(5);
        Check.due("in its place", x.image(1), 1);
        x.run(5);
        Check.due("restore(1)", x.restore(1), 1);
        Check.due("now", x.count(0), 5);
        Check.due("restore(0)", x.restore(0), 1);
        Check.due("now", x.count(0), 0);
    }

    private static void allComesBack() {
        PathWords x = busy();
        Check.due("image", x.image(0), 1);
        String before = Check.state(x);
        x.run(4);
        Check.due("restore", x.restore(0), 1);
        Check.due("as it was", Check.state(x), before);
        // One that was never restored, and one that was, twice, go on alike.
        PathWords y = busy();
        y.image(0);
        y.run(4);
        y.image(1);
        String after = Check.state(y);
        PathWords z = busy();
        z.image(0);
        z.run(9);
        z.image(1);
        for (int i = 0; i < 2; i++) {
            z.restore(0);
            z.run(4);
            Check.due("goes on alike", Check.state(z), after);
        }
    }

    private static void settingsComeBack() {
        PathWords x = new PathWords();
        x.image(0);
        for (int s = 0; s < 6; s++) {
            Check.call(x, s, "X" + (char) ('A' + s));
            Check.standIn(x, s, "S");
            Check.flood(x, s, "F");
            x.set(s, 0, 7);
            x.set(s, 1, 3);
            x.set(s, 2, 60);
        }
        Check.join(x, 0, 5, 1, 2);
        x.image(1);
        Check.type(x, "PAD");
        Check.due("restore", x.restore(0), 1);
        Check.due("the pad stays", x.count(1), 3);
        Check.due("pairs", x.count(5), 0);
        for (int s = 0; s < 6; s++) {
            Check.due("stand-ins", x.forget(s, 1), 0);
            Check.due("floods", x.forget(s, 2), 0);
            Check.due("limit", x.set(s, 0, 1), 3);
            Check.due("delay", x.set(s, 1, 1), 1);
            Check.due("window", x.set(s, 2, 1), 10);
            Check.type(x, String.valueOf((char) ('A' + s)));
            Check.due("the calls are taken", x.name((s + 1) % 6, 0), PathWords.STATE);
        }
        for (int s = 0; s < 6; s++) {
            Check.call(x, (s + 1) % 6, "X" + (char) ('A' + s));
        }
        Check.due("restore", x.restore(1), 1);
        Check.due("pairs", x.count(5), 2);
        for (int s = 0; s < 6; s++) {
            Check.due("stand-ins", x.forget(s, 1), 1);
            Check.due("floods", x.forget(s, 2), 1);
            Check.due("limit", x.set(s, 0, 1), 7);
            Check.due("delay", x.set(s, 1, 1), 3);
            Check.due("window", x.set(s, 2, 1), 60);
        }
    }

    /** Other traffic goes through all rows ahead of the restore. */
    private static void rowsComeBack() {
        PathWords x = new PathWords();
        Check.join(x, 0, 1);
        x.set(1, 1, 3);
        x.run(1);
        Check.send(x, 0, "Q>B:a");
        Check.send(x, 0, "Q>:b");
        x.run(2);
        x.image(0);
        x.run(20);
        for (char letter = 'm'; letter <= 'r'; letter++) {
            Check.send(x, 0, "R>B,X*:" + letter);
            x.run(5);
        }
        Check.due("the last is another", Check.written(x, 1), "R>B,X*:r");
        x.restore(0);
        Check.due("the last", Check.written(x, 1), "Q>:b");
        Check.due("its tick", x.last(1, 2), 2);
        Check.due("not due yet", x.run(1), 1);
        Check.due("due", x.run(1), 0);
        Check.due("what was kept", Check.written(x, 0), "Q>B*:a");
        Check.send(x, 0, "Q>C:a");
        Check.send(x, 0, "Q>C:b");
        Check.send(x, 0, "R>C:m");
        x.run(3);
        Check.due("doubles", x.heard(1, 3), 2);
        Check.due("not known", x.heard(1, 6), 1);
        // a came at tick 1, b at 2, both more than 10 ticks ago only at tick 13.
        x.restore(0);
        x.run(9);
        Check.send(x, 0, "Q>:a");
        x.run(1);
        Check.due("b is known alone, then a", x.heard(1, 10), 2);
        Check.due("a came anew", x.heard(1, 4), 2);
    }

    private static void whatIsKeptIsACopy() {
        PathWords x = new PathWords();
        Check.join(x, 0, 1);
        Check.send(x, 0, "A>B:a");
        x.image(0);
        Check.send(x, 0, "A>B:b");
        x.run(3);
        Check.type(x, "Z");
        x.name(1, 2);
        x.restore(0);
        Check.due("keeps", x.heard(0, 9), 1);
        Check.due("knows", x.heard(0, 10), 1);
        Check.due("no floods", x.forget(1, 2), 0);
        Check.due("heard none", x.written(1, -1), PathWords.STATE);
        Check.due("heard none", x.last(1, 0), PathWords.STATE);
        Check.due("heard none", x.trail(1, -1), PathWords.STATE);
        Check.due("run", x.run(1), 1);
        Check.due("heard", Check.written(x, 1), "A>B:a");
        x.restore(0);
        Check.due("it stays", x.heard(0, 9), 1);
        Check.due("run", x.run(2), 0);
        Check.due("heard", Check.written(x, 0), "A>B*:a");
    }

    private static void refusals() {
        PathWords x = busy();
        String before = Check.state(x);
        int[] outside = {-1, 2, 3, Integer.MIN_VALUE, Integer.MAX_VALUE};
        for (int k : outside) {
            Check.due("image(" + k + ")", x.image(k), PathWords.OUTSIDE);
            Check.due("restore(" + k + ")", x.restore(k), PathWords.OUTSIDE);
        }
        Check.due("restore(0)", x.restore(0), PathWords.STATE);
        Check.due("restore(1)", x.restore(1), PathWords.STATE);
        int[] whats = {-1, 7, 8, Integer.MIN_VALUE, Integer.MAX_VALUE};
        for (int what : whats) {
            Check.due("count(" + what + ")", x.count(what), PathWords.OUTSIDE);
        }
        Check.due("state", Check.state(x), before);
    }

    private static void counting() {
        PathWords x = new PathWords();
        Check.join(x, 0, 2, 1, 2, 4, 5);
        Check.send(x, 0, "A>:a");
        Check.send(x, 0, "A>:b");
        Check.send(x, 1, "B>:c");
        Check.type(x, "four");
        x.run(1);
        int[] due = {1, 4, 1, 2, 1, 3, 0};
        for (int what = 0; what <= 6; what++) {
            Check.due("count(" + what + ")", x.count(what), due[what]);
        }
        x.image(0);
        x.image(1);
        x.run(50);
        int[] later = {51, 4, 0, 3, 1, 3, 3};
        for (int what = 0; what <= 6; what++) {
            Check.due("count(" + what + ")", x.count(what), later[what]);
        }
    }
}
