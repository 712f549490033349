/** Counts the answers that are not as due; every test ends with it. */
final class Check {
    private static int wrong = 0;
    private static int asked = 0;
    private static String test = "";

    private Check() {
    }

    /** Names the test whose answers come next. */
    static void within(String name) {
        test = name.isEmpty() ? "" : name + ": ";
    }

    static int asked() {
        return asked;
    }

    static void due(String call, long got, long want) {
        asked++;
        if (got != want) {
            wrong++;
            System.out.println(test + call + " answered " + got + ", due is " + want);
        }
    }

    static void due(String call, String got, String want) {
        asked++;
        if (!got.equals(want)) {
            wrong++;
            System.out.println(test + call + " answered " + got + ", due is " + want);
        }
    }

    /** Wipes the pad and says each sign of a text. */
    static void type(PathWords x, String text) {
        x.wipe();
        for (int i = 0; i < text.length(); i++) {
            due("say " + text + " at " + i, x.say(text.charAt(i)), i + 1);
        }
    }

    static void call(PathWords x, int station, String name) {
        type(x, name);
        due("name(" + station + ", 0) " + name, x.name(station, 0), 1);
    }

    static void standIn(PathWords x, int station, String name) {
        type(x, name);
        int had = x.forget(station, 1);
        due("stand-ins had", had >= 0 ? 1 : 0, 1);
        due("name(" + station + ", 1) " + name, x.name(station, 1), 1);
    }

    static void flood(PathWords x, int station, String name) {
        type(x, name);
        int had = x.forget(station, 2);
        due("floods had", had >= 0 ? 1 : 0, 1);
        due("name(" + station + ", 2) " + name, x.name(station, 2), 1);
    }

    static void join(PathWords x, int... pairs) {
        for (int i = 0; i + 1 < pairs.length; i += 2) {
            x.near(pairs[i], pairs[i + 1], 1);
        }
    }

    /** Sends a packet from a station; it must be taken. */
    static void send(PathWords x, int station, String packet) {
        type(x, packet);
        int had = x.heard(station, 9);
        due("send(" + station + ") " + packet, x.send(station), had + 1);
    }

    /** The last packet of a station as it is written; "" if it heard none. */
    static String written(PathWords x, int station) {
        StringBuilder text = new StringBuilder();
        int signs = x.written(station, -1);
        for (int k = 0; k < signs; k++) {
            text.append((char) x.written(station, k));
        }
        return text.toString();
    }

    /** All tallies of a station: heard(station, 0) to heard(station, 10). */
    static String tallies(PathWords x, int station) {
        StringBuilder text = new StringBuilder();
        for (int what = 0; what <= 10; what++) {
            text.append(what == 0 ? "" : " ").append(x.heard(station, what));
        }
        return text.toString();
    }

    /** All that can be told of an object but by trials; two of these are equal if nothing changed. */
    static String state(PathWords x) {
        StringBuilder text = new StringBuilder();
        for (int what = 0; what <= 6; what++) {
            text.append(x.count(what)).append(' ');
        }
        text.append("fault ").append(x.fault());
        for (int s = 0; s < 6; s++) {
            text.append(" | ").append(tallies(x, s)).append(' ').append(written(x, s));
            text.append(' ').append(x.last(s, 2)).append(' ').append(x.trail(s, 0));
        }
        return text.toString();
    }

    static void end(String test) {
        System.out.println(test + ": " + asked + " answers, " + wrong + " not as due");
        if (wrong != 0) {
            System.exit(1);
        }
    }
}
