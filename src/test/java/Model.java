import java.util.ArrayList;
import java.util.HashMap;
import java.util.List;
import java.util.Map;
import java.util.regex.Matcher;
import java.util.regex.Pattern;

/**
 * The document once more, in texts and lists and without care for room or time: packets are kept as they
 * are written, and read anew by patterns. ModelTest compares its answers with those of the class.
 */
final class Model {
    private static final String WORD = "[A-Z]{1,3}(-[1-7])?\\*?";
    private static final Pattern NAME = Pattern.compile("[A-Z]{1,3}");
    private static final Pattern PACKET =
            Pattern.compile("[A-Z]{1,3}>(" + WORD + "(," + WORD + "){0,4})?:[a-z]{1,4}");

    private static final class Held {
        final String packet;
        final int due;

        Held(String packet, int due) {
            this.packet = packet;
            this.due = due;
        }
    }

    private static final class Mind {
        final String what;
        final int came;

        Mind(String what, int came) {
            this.what = what;
            this.came = came;
        }
    }

    private static final class Post {
        String call;
        List<String> standIns = new ArrayList<>();
        List<String> floods = new ArrayList<>();
        int[] settings = {3, 1, 10};
        List<Held> held = new ArrayList<>();
        List<Mind> minds = new ArrayList<>();
        Map<String, Integer> tallies = new HashMap<>();
        String heard = null;
        int heardAt = 0;
        int firstAt = -1;

        Post settingsOf() {
            Post copy = new Post();
            copy.call = call;
            copy.standIns = new ArrayList<>(standIns);
            copy.floods = new ArrayList<>(floods);
            copy.settings = settings.clone();
            return copy;
        }

        Post copyOf() {
            Post copy = settingsOf();
            copy.held = new ArrayList<>(held);
            copy.minds = new ArrayList<>(minds);
            copy.tallies = new HashMap<>(tallies);
            copy.heard = heard;
            copy.heardAt = heardAt;
            copy.firstAt = firstAt;
            return copy;
        }

        void tally(String what) {
            tallies.merge(what, 1, Integer::sum);
        }

        int told(String what) {
            return tallies.getOrDefault(what, 0);
        }
    }

    private static final class Hill {
        final Post[] posts = new Post[6];
        final boolean[][] near = new boolean[6][6];
        int tick = 0;

        Hill quiet() {
            Hill copy = new Hill();
            for (int s = 0; s < 6; s++) {
                copy.posts[s] = posts[s].settingsOf();
                copy.near[s] = near[s].clone();
            }
            return copy;
        }

        Hill copyOf() {
            Hill copy = quiet();
            for (int s = 0; s < 6; s++) {
                copy.posts[s] = posts[s].copyOf();
            }
            copy.tick = tick;
            return copy;
        }

        int kept() {
            int all = 0;
            for (Post post : posts) {
                all += post.held.size();
            }
            return all;
        }

        int told(String what) {
            int all = 0;
            for (Post post : posts) {
                all += post.told(what);
            }
            return all;
        }

        void keepNew(int s, String packet) {
            String key = keyOf(packet);
            posts[s].held.add(new Held(packet, tick));
            posts[s].minds.removeIf(m -> m.what.equals(key));
            know(posts[s], key);
        }

        void know(Post post, String key) {
            post.minds.add(new Mind(key, tick));
            if (post.minds.size() > 16) {
                post.minds.remove(0);
            }
        }

        void pass() {
            String[] sent = new String[6];
            for (int s = 0; s < 6; s++) {
                for (Held one : posts[s].held) {
                    if (one.due <= tick) {
                        sent[s] = one.packet;
                        posts[s].held.remove(one);
                        posts[s].tally("SENT");
                        break;
                    }
                }
            }
            for (int s = 0; s < 6; s++) {
                if (sent[s] != null) {
                    continue;
                }
                List<String> audible = new ArrayList<>();
                for (int o = 0; o < 6; o++) {
                    if (near[s][o] && sent[o] != null) {
                        audible.add(sent[o]);
                    }
                }
                if (audible.size() > 1) {
                    posts[s].tally("CRASHES");
                } else if (audible.size() == 1) {
                    look(posts[s], audible.get(0));
                }
            }
            tick++;
        }

        void look(Post post, String packet) {
            post.heard = packet;
            post.heardAt = tick;
            if (post.firstAt < 0) {
                post.firstAt = tick;
            }
            post.tally("HEARD");
            post.minds.removeIf(m -> tick - m.came > post.settings[2]);
            String key = keyOf(packet);
            if (isOwn(post, packet)) {
                post.tally("OWN");
            } else if (post.minds.stream().anyMatch(m -> m.what.equals(key))) {
                post.tally("DOUBLE");
            } else {
                know(post, key);
                List<String> words = wordsOf(packet);
                int first = firstOpen(words);
                if (first < 0) {
                    post.tally("END");
                } else if (rewrite(post, words, first)) {
                    post.tally("REPEATED");
                    if (post.held.size() < 12) {
                        post.held.add(new Held(withWords(packet, words), tick + post.settings[1]));
                    } else {
                        post.tally("LOST");
                    }
                } else {
                    post.tally("FOREIGN");
                }
            }
        }
    }

    private static String sourceOf(String packet) {
        return packet.substring(0, packet.indexOf('>'));
    }

    private static String keyOf(String packet) {
        return sourceOf(packet) + packet.substring(packet.indexOf(':'));
    }

    private static List<String> wordsOf(String packet) {
        String path = packet.substring(packet.indexOf('>') + 1, packet.indexOf(':'));
        return path.isEmpty() ? new ArrayList<>() : new ArrayList<>(List.of(path.split(",")));
    }

    private static String withWords(String packet, List<String> words) {
        return sourceOf(packet) + ">" + String.join(",", words) + packet.substring(packet.indexOf(':'));
    }

    private static String nameOf(String word) {
        return word.replaceAll("[^A-Z]", "");
    }

    private static int hopsOf(String word) {
        String figure = word.replaceAll("[^0-9]", "");
        return figure.isEmpty() ? 0 : Integer.parseInt(figure);
    }

    private static int firstOpen(List<String> words) {
        for (int i = 0; i < words.size(); i++) {
            if (!words.get(i).endsWith("*")) {
                return i;
            }
        }
        return -1;
    }

    private static List<String> spentOf(String packet) {
        List<String> spent = wordsOf(packet);
        spent.removeIf(w -> !w.endsWith("*"));
        return spent;
    }

    private static boolean isOwn(Post post, String packet) {
        return sourceOf(packet).equals(post.call)
                || spentOf(packet).stream().anyMatch(w -> nameOf(w).equals(post.call));
    }

    private static boolean rewrite(Post post, List<String> words, int first) {
        String word = words.get(first);
        String name = nameOf(word);
        int hops = hopsOf(word);
        String mark = post.call + "*";
        if (name.equals(post.call)) {
            words.set(first, mark);
            return true;
        }
        if (hops == 0) {
            if (post.standIns.contains(name)) {
                words.set(first, mark);
                return true;
            }
            return false;
        }
        if (!post.floods.contains(name)) {
            return false;
        }
        if (hops > post.settings[0]) {
            hops = post.settings[0];
        }
        hops--;
        if (hops == 0) {
            words.set(first, mark);
            return true;
        }
        words.set(first, name + "-" + hops);
        if (words.size() < 8) {
            words.add(first, mark);
        }
        return true;
    }

    private static final String[] TOLD = {
        "SENT", "HEARD", "OWN", "DOUBLE", "END", "REPEATED", "FOREIGN", "CRASHES", "LOST",
    };

    private String pad = "";
    private Hill hill = new Hill();
    private final Hill[] images = new Hill[2];

    Model() {
        for (int s = 0; s < 6; s++) {
            hill.posts[s] = new Post();
            hill.posts[s].call = "ABCDEF".substring(s, s + 1);
        }
    }

    private static boolean between(int n, int low, int high) {
        return low <= n && n <= high;
    }

    private static boolean station(int s) {
        return between(s, 0, 5);
    }

    private boolean padIsName() {
        return NAME.matcher(pad).matches();
    }

    int say(int sign) {
        if (!between(sign, 33, 126)) {
            return -2;
        }
        if (pad.length() == 40) {
            return -4;
        }
        pad = pad + (char) sign;
        return pad.length();
    }

    int wipe() {
        int had = pad.length();
        pad = "";
        return had;
    }

    int fault() {
        if (PACKET.matcher(pad).matches()) {
            return -6;
        }
        for (int n = 1; n <= pad.length(); n++) {
            Matcher matcher = PACKET.matcher(pad.substring(0, n));
            if (!matcher.matches() && !matcher.hitEnd()) {
                return n - 1;
            }
        }
        return pad.length();
    }

    int name(int s, int what) {
        if (!station(s)) {
            return -1;
        }
        if (!between(what, 0, 2)) {
            return -2;
        }
        if (!padIsName()) {
            return -7;
        }
        Post post = hill.posts[s];
        if (what == 0) {
            for (Post other : hill.posts) {
                if (other != post && other.call.equals(pad)) {
                    return -3;
                }
            }
            post.call = pad;
            pad = "";
            return 1;
        }
        List<String> names = what == 1 ? post.standIns : post.floods;
        if (names.size() == 2) {
            return -4;
        }
        names.add(pad);
        pad = "";
        return names.size();
    }

    int forget(int s, int what) {
        if (!station(s)) {
            return -1;
        }
        if (!between(what, 1, 2)) {
            return -2;
        }
        List<String> names = what == 1 ? hill.posts[s].standIns : hill.posts[s].floods;
        int had = names.size();
        names.clear();
        return had;
    }

    int set(int s, int what, int n) {
        if (!station(s)) {
            return -1;
        }
        int[] low = {1, 1, 0};
        int[] high = {7, 3, 60};
        if (!between(what, 0, 2) || !between(n, low[what], high[what])) {
            return -2;
        }
        int was = hill.posts[s].settings[what];
        hill.posts[s].settings[what] = n;
        return was;
    }

    int near(int one, int other, int is) {
        if (!station(one) || !station(other)) {
            return -1;
        }
        if (!between(is, 0, 1) || one == other) {
            return -2;
        }
        hill.near[one][other] = is == 1;
        hill.near[other][one] = is == 1;
        int all = 0;
        for (boolean b : hill.near[one]) {
            all += b ? 1 : 0;
        }
        return all;
    }

    int send(int s) {
        if (!station(s)) {
            return -1;
        }
        if (!PACKET.matcher(pad).matches()) {
            return -7;
        }
        if (hill.posts[s].held.size() == 12) {
            return -4;
        }
        hill.keepNew(s, pad);
        pad = "";
        return hill.posts[s].held.size();
    }

    int run(int n) {
        if (!between(n, 1, 50)) {
            return -2;
        }
        for (int i = 0; i < n; i++) {
            hill.pass();
        }
        return hill.kept();
    }

    int heard(int s, int what) {
        if (!station(s)) {
            return -1;
        }
        if (!between(what, 0, 10)) {
            return -2;
        }
        if (what == 9) {
            return hill.posts[s].held.size();
        }
        return what == 10 ? hill.posts[s].minds.size() : hill.posts[s].told(TOLD[what]);
    }

    int written(int s, int k) {
        if (!station(s)) {
            return -1;
        }
        if (k < -1) {
            return -2;
        }
        String heard = hill.posts[s].heard;
        if (heard == null) {
            return -3;
        }
        if (k == -1) {
            return heard.length();
        }
        return k < heard.length() ? heard.charAt(k) : -6;
    }

    int last(int s, int what) {
        if (!station(s)) {
            return -1;
        }
        if (!between(what, 0, 3)) {
            return -2;
        }
        String heard = hill.posts[s].heard;
        if (heard == null) {
            return -3;
        }
        List<String> words = wordsOf(heard);
        int first = firstOpen(words);
        int[] told = {
            words.size(), spentOf(heard).size(), hill.posts[s].heardAt, first < 0 ? -6 : hopsOf(words.get(first)),
        };
        return told[what];
    }

    int trail(int s, int i) {
        if (!station(s)) {
            return -1;
        }
        String heard = hill.posts[s].heard;
        if (heard == null) {
            return -3;
        }
        List<String> spent = spentOf(heard);
        if (i == -1) {
            return spent.size();
        }
        if (between(i, 0, spent.size() - 1)) {
            for (int o = 0; o < 6; o++) {
                if (hill.posts[o].call.equals(nameOf(spent.get(i)))) {
                    return o;
                }
            }
        }
        return -6;
    }

    private int[] spread(Hill net, int s, int n) {
        net.keepNew(s, net.posts[s].call + ">" + pad + "-" + n + ":x");
        while (net.kept() > 0) {
            net.pass();
        }
        int set = 0;
        int latest = -6;
        for (int o = 0; o < 6; o++) {
            if (net.posts[o].firstAt >= 0) {
                set |= 1 << o;
                latest = Math.max(latest, net.posts[o].firstAt);
            }
        }
        return new int[] {set, latest, net.told("SENT"), net.told("CRASHES")};
    }

    private boolean comes(Hill net, int from, int to, int n) {
        return (spread(net, from, n)[0] >> to & 1) == 1;
    }

    int reach(int s, int n, int what) {
        if (!station(s)) {
            return -1;
        }
        if (!between(n, 1, 7) || !between(what, 0, 3)) {
            return -2;
        }
        return padIsName() ? spread(hill.quiet(), s, n)[what] : -7;
    }

    int fewest(int from, int to) {
        if (!station(from) || !station(to)) {
            return -1;
        }
        if (from == to) {
            return -2;
        }
        if (!padIsName()) {
            return -7;
        }
        for (int n = 1; n <= 7; n++) {
            if (comes(hill.quiet(), from, to, n)) {
                return n;
            }
        }
        return -6;
    }

    int bridges(int from, int to, int n) {
        if (!station(from) || !station(to)) {
            return -1;
        }
        if (from == to || !between(n, 1, 7)) {
            return -2;
        }
        if (!padIsName()) {
            return -7;
        }
        if (!comes(hill.quiet(), from, to, n)) {
            return -6;
        }
        int set = 0;
        for (int s = 0; s < 6; s++) {
            Hill net = hill.quiet();
            for (int o = 0; o < 6; o++) {
                net.near[s][o] = false;
                net.near[o][s] = false;
            }
            if (s != from && s != to && !comes(net, from, to, n)) {
                set |= 1 << s;
            }
        }
        return set;
    }

    int image(int k) {
        if (!between(k, 0, 1)) {
            return -2;
        }
        images[k] = hill.copyOf();
        return 1;
    }

    int restore(int k) {
        if (!between(k, 0, 1)) {
            return -2;
        }
        if (images[k] == null) {
            return -3;
        }
        hill = images[k].copyOf();
        return 1;
    }

    int count(int what) {
        int pairs = 0;
        for (int s = 0; s < 6; s++) {
            for (int o = 0; o < s; o++) {
                pairs += hill.near[s][o] ? 1 : 0;
            }
        }
        int kept = (images[0] == null ? 0 : 1) + (images[1] == null ? 0 : 2);
        int[] told = {hill.tick, pad.length(), hill.kept(), hill.told("SENT"), hill.told("CRASHES"), pairs, kept};
        return between(what, 0, 6) ? told[what] : -2;
    }
}
