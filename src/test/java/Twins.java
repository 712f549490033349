/**
 * What is refused changes nothing: of two objects made alike one gets the call that is refused, and then both
 * are asked for all that can be told. That is more than 512 calls, so there are several rounds, each with two
 * new objects.
 */
final class Twins {
    /** Makes an object that has something of everything, with this on its pad. */
    interface Making {
        PathWords make();
    }

    interface Call {
        int on(PathWords x);
    }

    private static final int ROUNDS = 8;
    /** The calls that the objects of these tests have, or might have got. */
    private static final String[] CALLS = {"A", "BB", "CCC", "D", "E", "F", "W", "G", "B"};

    private Twins() {
    }

    static void refused(String what, Making making, Call call, int due) {
        for (int round = 0; round < ROUNDS; round++) {
            PathWords one = making.make();
            PathWords twin = making.make();
            Check.due(what, call.on(one), due);
            Check.due(what + ": told in round " + round, told(one, round), told(twin, round));
        }
    }

    private static String told(PathWords x, int round) {
        StringBuilder text = new StringBuilder();
        switch (round) {
            case 0:
                counts(x, text);
                break;
            case 1:
                lasts(x, text);
                break;
            case 2:
                settings(x, text);
                break;
            case 3:
                calls(x, text);
                break;
            case 4:
                pad(x, text);
                break;
            case 5:
                names(x, text);
                break;
            case 6:
                images(x, text);
                break;
            default:
                ticks(x, text);
                break;
        }
        return text.toString();
    }

    private static void counts(PathWords x, StringBuilder text) {
        for (int what = 0; what <= 6; what++) {
            text.append(x.count(what)).append(' ');
        }
        text.append(x.fault()).append(' ');
        for (int s = 0; s < 6; s++) {
            text.append(Check.tallies(x, s)).append(", ");
        }
    }

    private static void lasts(PathWords x, StringBuilder text) {
        for (int s = 0; s < 6; s++) {
            text.append(Check.written(x, s)).append(' ').append(x.last(s, 2)).append(' ');
            for (int i = -1; i < 4; i++) {
                text.append(x.trail(s, i)).append(' ');
            }
        }
    }

    private static void settings(PathWords x, StringBuilder text) {
        for (int s = 0; s < 6; s++) {
            text.append(x.forget(s, 1)).append(x.forget(s, 2)).append(' ');
            text.append(x.set(s, 0, 1)).append(x.set(s, 1, 1)).append(x.set(s, 2, 0)).append(' ');
            for (int other = 0; other < s; other++) {
                text.append(x.near(s, other, 0));
            }
        }
    }

    private static void calls(PathWords x, StringBuilder text) {
        for (String call : CALLS) {
            for (int s = 0; s < 6; s += 5) {
                Check.type(x, call);
                text.append(x.name(s, 0)).append(' ');
            }
        }
    }

    /** What stands on the pad, if it is a packet or becomes one by a few signs more: as station 5 hears it. */
    private static void pad(PathWords x, StringBuilder text) {
        x.near(4, 5, 1);
        x.near(3, 4, 0);
        x.run(20);
        if (x.count(1) < 4) {
            text.append(x.say('>')).append(x.say(':')).append(x.say('z'));
        }
        text.append(x.fault()).append(' ').append(x.send(4));
        x.run(1);
        text.append(Check.written(x, 5));
    }

    private static void names(PathWords x, StringBuilder text) {
        String[] words = {"BB", "S", "T", "W-2", "V-2", "X-7"};
        x.run(20);
        for (int i = 0; i < words.length; i++) {
            Check.type(x, "Q>" + words[i] + ":q" + (char) ('a' + i));
            x.send(0);
            x.run(4);
            text.append(Check.written(x, 0)).append(' ').append(x.heard(1, 5)).append(' ');
        }
    }

    private static void images(PathWords x, StringBuilder text) {
        for (int k = 1; k >= 0; k--) {
            text.append(x.restore(k)).append(' ');
            counts(x, text);
        }
    }

    private static void ticks(PathWords x, StringBuilder text) {
        for (int i = 0; i < 9; i++) {
            text.append(x.run(1)).append(' ');
            for (int s = 0; s < 6; s++) {
                text.append(x.heard(s, 0)).append(x.heard(s, 1)).append(x.heard(s, 3)).append(x.heard(s, 10));
            }
        }
    }
}
