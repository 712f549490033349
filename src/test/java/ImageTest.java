/** Promises 18 to 20: image, restore, count. */
public final class ImageTest {
    private ImageTest() {
    }

    public static void main(String[] args) {
        imagesAreKept();
        allComesBack();
        settingsComeBack();
        whatIsKeptIsACopy();
        refusals();
        counting();
        Check.end("ImageTest");
    }

    private static PathWords busy() {
        PathWords x = new PathWords();
        Check.join(x, 0, 1, 1, 2, 2, 3, 0, 2);
        Check.flood(x, 1, "W");
        Check.flood(x, 2, "W");
        x.set(2, 1, 3);
        Check.send(x, 0, "A>W-3:a");
        Check.send(x, 0, "A>W-3:b");
        Check.send(x, 3, "D>C,B:c");
        x.run(3);
        return x;
    }

    private static void imagesAreKept() {
        PathWords x = new PathWords();
        Check.due("none", x.count(6), 0);
        Check.due("image(1)", x.image(1), 1);
        Check.due("the second", x.count(6), 2);
        Check.due("restore(0)", x.restore(0), PathWords.STATE);
        Check.due("restore(1)", x.restore(1), 1);
        Check.due("it stays", x.count(6), 2);
        Check.due("image(0)", x.image(0), 1);
        Check.due("both", x.count(6), 3);
        Check.due("again", x.restore(1), 1);
        Check.due("both", x.count(6), 3);
        x.run(5);
        Check.due("in its place", x.image(1), 1);
        x.run(5);
        Check.due("restore(1)", x.restore(1), 1);
        Check.due("now", x.count(0), 5);
        Check.due("restore(0)", x.restore(0), 1);
        Check.due("now", x.count(0), 0);
    }

    private static void allComesBack() {
        PathWords x = busy();
        Check.due("image", x.image(0), 1);
        String before = Check.state(x);
        x.run(4);
        String after = Check.state(x);
        x.image(1);
        String later = Check.state(x);
        for (int i = 0; i < 2; i++) {
            Check.due("restore(0)", x.restore(0), 1);
            Check.due("as it was", Check.state(x).substring(14), before.substring(14));
            x.run(4);
            Check.due("and goes on so", Check.state(x).substring(14), after.substring(14));
            x.restore(1);
            Check.due("the other", Check.state(x), later);
        }
    }

    private static void settingsComeBack() {
        PathWords x = new PathWords();
        x.image(0);
        for (int s = 0; s < 6; s++) {
            Check.call(x, s, "X" + (char) ('A' + s));
            Check.standIn(x, s, "S");
            Check.flood(x, s, "F");
            x.set(s, 0, 7);
            x.set(s, 1, 3);
            x.set(s, 2, 60);
        }
        Check.join(x, 0, 5, 1, 2);
        x.image(1);
        Check.type(x, "PAD");
        Check.due("restore", x.restore(0), 1);
        Check.due("the pad stays", x.count(1), 3);
        Check.due("pairs", x.count(5), 0);
        for (int s = 0; s < 6; s++) {
            Check.due("stand-ins", x.forget(s, 1), 0);
            Check.due("floods", x.forget(s, 2), 0);
            Check.due("limit", x.set(s, 0, 1), 3);
            Check.due("delay", x.set(s, 1, 1), 1);
            Check.due("window", x.set(s, 2, 1), 10);
            Check.type(x, String.valueOf((char) ('A' + s)));
            Check.due("the calls are taken", x.name((s + 1) % 6, 0), PathWords.STATE);
        }
        for (int s = 0; s < 6; s++) {
            Check.call(x, (s + 1) % 6, "X" + (char) ('A' + s));
        }
        Check.due("restore", x.restore(1), 1);
        Check.due("pairs", x.count(5), 2);
        for (int s = 0; s < 6; s++) {
            Check.due("stand-ins", x.forget(s, 1), 1);
            Check.due("floods", x.forget(s, 2), 1);
            Check.due("limit", x.set(s, 0, 1), 7);
            Check.due("delay", x.set(s, 1, 1), 3);
            Check.due("window", x.set(s, 2, 1), 60);
        }
    }

    private static void whatIsKeptIsACopy() {
        PathWords x = new PathWords();
        Check.join(x, 0, 1);
        Check.send(x, 0, "A>B:a");
        x.image(0);
        Check.send(x, 0, "A>B:b");
        x.run(3);
        Check.type(x, "Z");
        x.name(1, 2);
        x.restore(0);
        Check.due("keeps", x.heard(0, 9), 1);
        Check.due("knows", x.heard(0, 10), 1);
        Check.due("no floods", x.forget(1, 2), 0);
        Check.due("heard none", x.written(1, -1), PathWords.STATE);
        Check.due("heard none", x.last(1, 0), PathWords.STATE);
        Check.due("heard none", x.trail(1, -1), PathWords.STATE);
        Check.due("run", x.run(1), 1);
        Check.due("heard", Check.written(x, 1), "A>B:a");
        x.restore(0);
        Check.due("it stays", x.heard(0, 9), 1);
        Check.due("run", x.run(2), 0);
        Check.due("heard", Check.written(x, 0), "A>B*:a");
    }

    private static void refusals() {
        PathWords x = busy();
        String before = Check.state(x);
        int[] outside = {-1, 2, 3, Integer.MIN_VALUE, Integer.MAX_VALUE};
        for (int k : outside) {
            Check.due("image(" + k + ")", x.image(k), PathWords.OUTSIDE);
            Check.due("restore(" + k + ")", x.restore(k), PathWords.OUTSIDE);
        }
        Check.due("restore(0)", x.restore(0), PathWords.STATE);
        Check.due("restore(1)", x.restore(1), PathWords.STATE);
        int[] whats = {-1, 7, 8, Integer.MIN_VALUE, Integer.MAX_VALUE};
        for (int what : whats) {
            Check.due("count(" + what + ")", x.count(what), PathWords.OUTSIDE);
        }
        Check.due("state", Check.state(x), before);
    }

    private static void counting() {
        PathWords x = new PathWords();
        Check.join(x, 0, 2, 1, 2, 4, 5);
        Check.send(x, 0, "A>:a");
        Check.send(x, 0, "A>:b");
        Check.send(x, 1, "B>:c");
        Check.type(x, "four");
        x.run(1);
        int[] due = {1, 4, 1, 2, 1, 3, 0};
        for (int what = 0; what <= 6; what++) {
            Check.due("count(" + what + ")", x.count(what), due[what]);
        }
        x.image(0);
        x.image(1);
        x.run(50);
        int[] later = {51, 4, 0, 3, 1, 3, 3};
        for (int what = 0; what <= 6; what++) {
            Check.due("count(" + what + ")", x.count(what), later[what]);
        }
    }
}
