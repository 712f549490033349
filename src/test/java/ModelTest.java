import java.util.Random;

/** Long runs of calls, by fixed seeds, on the class and on the model: both must answer alike. */
public final class ModelTest {
    private static final int RUNS = 6000;
    private static final int CALLS = 512;
    private static final String[] CALL_NAMES = {"GA", "HAB", "J", "A", "B", "C", "D", "E", "F"};
    private static final String[] PATH_NAMES = {"W", "VX", "RLY", "W", "W"};
    private static final int[] ODD = {-7, -6, -3, -2, -1, 8, 11, 41, 51, 61, 127, Integer.MIN_VALUE, Integer.MAX_VALUE};

    private final Random random;
    private final int seed;
    private final PathWords real = new PathWords();
    private final Model model = new Model();
    private final int[] done = new int[20];
    private final int traffic;
    private int calls = 0;

    private ModelTest(int seed) {
        this.seed = seed;
        this.random = new Random(seed);
        this.traffic = random.nextInt(3);
        done[0] = 1;
    }

    public static void main(String[] args) {
        long[] done = new long[20];
        long[] heard = new long[9];
        for (int seed = 1; seed <= RUNS; seed++) {
            ModelTest one = new ModelTest(seed);
            one.play();
            for (int i = 0; i < done.length; i++) {
                done[i] += one.done[i];
            }
            for (int s = 0; s < 6; s++) {
                for (int what = 0; what < 9; what++) {
                    heard[what] += one.model.heard(s, what);
                }
            }
        }
        for (int i = 0; i < done.length; i++) {
            Check.due("enough calls of promise " + (i + 1), done[i] > RUNS / 2 ? 1 : 0, 1);
        }
        // A station that hears keeps only what is not due, two packets at the most: none is ever lost.
        for (int what = 0; what < 8; what++) {
            Check.due("tally " + what + " was seen", heard[what] > RUNS ? 1 : 0, 1);
        }
        Check.due("none is lost", heard[8], 0);
        Check.end("ModelTest");
    }

    private void play() {
        settle();
        while (calls < CALLS) {
            int dice = random.nextInt(100);
            if (dice < 22) {
                sendSome();
            } else if (dice < 40) {
                step(10, traffic == 0 ? some(1, 50) : some(1, 4), 0, 0);
            } else if (dice < 46) {
                trials();
            } else if (dice < 52) {
                settle(some(0, 5));
            } else {
                any();
            }
        }
    }

    private int some(int low, int high) {
        return random.nextInt(40) == 0 ? ODD[random.nextInt(ODD.length)] : low + random.nextInt(high - low + 1);
    }

    private int inside(int low, int high) {
        return low + random.nextInt(high - low + 1);
    }

    private void settle() {
        int ways = inside(3, 9);
        for (int i = 0; i < ways; i++) {
            step(8, inside(0, 5), inside(0, 5), 1);
        }
        for (int s = 0; s < 6; s++) {
            settle(s);
        }
    }

    private void settle(int s) {
        if (random.nextInt(3) > 0) {
            type(PATH_NAMES[random.nextInt(PATH_NAMES.length)]);
            step(5, s, some(1, 2), 0);
        }
        if (random.nextInt(5) == 0) {
            type(CALL_NAMES[random.nextInt(CALL_NAMES.length)]);
            step(5, s, 0, 0);
        }
        if (random.nextInt(3) == 0) {
            step(7, s, 0, some(1, 7));
            step(7, s, 1, some(1, 3));
            step(7, s, 2, random.nextBoolean() ? some(0, 60) : inside(0, 3));
        }
    }

    private void trials() {
        type(random.nextInt(4) == 0 ? CALL_NAMES[random.nextInt(CALL_NAMES.length)] : "W");
        int from = some(0, 5);
        int n = some(1, 7);
        for (int what = 0; what <= 3; what++) {
            step(15, from, n, what);
        }
        for (int to = 0; to < 6; to++) {
            step(16, from, to, 0);
            step(17, from, to, n);
        }
    }

    private String aName() {
        boolean path = random.nextBoolean();
        return path ? PATH_NAMES[random.nextInt(PATH_NAMES.length)] : CALL_NAMES[random.nextInt(CALL_NAMES.length)];
    }

    private String aPacket() {
        StringBuilder text = new StringBuilder(aName()).append('>');
        int words = inside(0, random.nextInt(4) == 0 ? 6 : 3);
        for (int i = 0; i < words; i++) {
            text.append(i > 0 ? "," : "").append(aName());
            if (random.nextBoolean()) {
                text.append('-').append(random.nextInt(30) == 0 ? inside(0, 9) : inside(1, 7));
            }
            if (random.nextInt(4) == 0) {
                text.append('*');
            }
        }
        text.append(':');
        int letters = random.nextInt(6) == 0 ? inside(0, 5) : 1;
        for (int i = 0; i < letters; i++) {
            text.append((char) ('a' + random.nextInt(traffic == 2 ? 26 : 5)));
        }
        if (random.nextInt(25) == 0) {
            text.setCharAt(random.nextInt(text.length()), (char) inside(33, 126));
        }
        return text.toString();
    }

    private void sendSome() {
        type(aPacket());
        if (random.nextInt(5) == 0) {
            step(4, 0, 0, 0);
        }
        int s = some(0, 5);
        step(9, s, 0, 0);
        if (traffic == 2 && random.nextInt(12) == 0) {
            for (int i = 0; i < 14 && calls < CALLS - 20; i++) {
                type("Q>:" + (char) ('a' + random.nextInt(26)));
                step(9, s, 0, 0);
            }
        }
    }

    private void type(String text) {
        if (random.nextInt(30) > 0) {
            step(3, 0, 0, 0);
        }
        for (int i = 0; i < text.length(); i++) {
            step(2, text.charAt(i), 0, 0);
        }
    }

    private void any() {
        int kind = inside(2, 20);
        int a = some(0, 5);
        switch (kind) {
            case 2:
                step(2, some(31, 128), 0, 0);
                break;
            case 6:
            case 8:
                if (random.nextInt(3) == 0) {
                    step(kind, a, some(0, kind == 6 ? 3 : 5), some(0, 1));
                }
                break;
            case 10:
                step(10, some(0, 10), 0, 0);
                break;
            case 11:
                step(11, a, some(0, 11), 0);
                break;
            case 12:
                step(12, a, some(-1, 60), 0);
                break;
            case 13:
                step(13, a, some(-1, 4), 0);
                break;
            case 14:
                step(14, a, some(-2, 8), 0);
                break;
            case 18:
            case 19:
                step(kind, some(0, 1), 0, 0);
                break;
            case 20:
                step(20, some(-1, 7), 0, 0);
                break;
            default:
                step(kind, a, some(0, 5), some(0, 7));
                break;
        }
    }

    private void step(int promise, int a, int b, int c) {
        if (calls >= CALLS) {
            return;
        }
        calls++;
        int got = onReal(promise, a, b, c);
        int want = onModel(promise, a, b, c);
        if (got != want) {
            Check.due("seed " + seed + ", call " + calls + ": promise " + promise + " (" + a + ", " + b + ", " + c + ")",
                    got, want);
            calls = CALLS;
        }
        done[promise - 1]++;
    }

    private int onReal(int promise, int a, int b, int c) {
        switch (promise) {
            case 2: return real.say(a);
            case 3: return real.wipe();
            case 4: return real.fault();
            case 5: return real.name(a, b);
            case 6: return real.forget(a, b);
            case 7: return real.set(a, b, c);
            case 8: return real.near(a, b, c);
            case 9: return real.send(a);
            case 10: return real.run(a);
            case 11: return real.heard(a, b);
            case 12: return real.written(a, b);
            case 13: return real.last(a, b);
            case 14: return real.trail(a, b);
            case 15: return real.reach(a, b, c);
            case 16: return real.fewest(a, b);
            case 17: return real.bridges(a, b, c);
            case 18: return real.image(a);
            case 19: return real.restore(a);
            default: return real.count(a);
        }
    }

    private int onModel(int promise, int a, int b, int c) {
        switch (promise) {
            case 2: return model.say(a);
            case 3: return model.wipe();
            case 4: return model.fault();
            case 5: return model.name(a, b);
            case 6: return model.forget(a, b);
            case 7: return model.set(a, b, c);
            case 8: return model.near(a, b, c);
            case 9: return model.send(a);
            case 10: return model.run(a);
            case 11: return model.heard(a, b);
            case 12: return model.written(a, b);
            case 13: return model.last(a, b);
            case 14: return model.trail(a, b);
            case 15: return model.reach(a, b, c);
            case 16: return model.fewest(a, b);
            case 17: return model.bridges(a, b, c);
            case 18: return model.image(a);
            case 19: return model.restore(a);
            default: return model.count(a);
        }
    }
}
