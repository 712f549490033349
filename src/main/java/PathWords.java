/**
 * Stations on a hill that hear their neighbours and repeat packets which carry a path of words.
 *
 * All rows are made with the object and used again, so that no call but the first image() of each
 * of both images makes anything.
 */
public final class PathWords {
    public static final int UNKNOWN = -1, OUTSIDE = -2, STATE = -3, FULL = -4, NONE = -6, FAULT = -7;

    private static final int STATIONS = 6;
    private static final int IMAGES = 2;
    private static final int PAD_SIGNS = 40;
    private static final int PAD_WORDS = 5;
    private static final int MOST_WORDS = 8;
    private static final int MOST_HOPS = 7;
    private static final int MOST_KEPT = 12;
    private static final int MOST_KNOWN = 16;
    private static final int MOST_NAMES = 2;
    private static final int MOST_TICKS = 50;
    private static final int NAME_LETTERS = 3;
    private static final int TEXT_LETTERS = 4;
    /** Source, sign, eight words of six signs with seven commas, colon, text: 3 + 1 + 55 + 1 + 4. */
    private static final int WRITTEN_SIGNS = 64;
    /** No packet of a trial is repeated twice by one station, so a trial ends long before this. */
    private static final int TRIAL_TICKS = 100000;

    /** What a station's row of tallies holds, in the order in which heard() names it. */
    private static final int SENT = 0, HEARD = 1, OWN = 2, DOUBLE = 3, END = 4, REPEATED = 5,
            FOREIGN = 6, CRASHES = 7, LOST = 8, TALLIES = 9;

    private final Pad pad;
    private final Net net;
    private final Trial trial;
    private final Net[] images;
    private final Packet scratch;
    private final Writing writing;

    public PathWords() {
        pad = new Pad();
        net = new Net();
        trial = new Trial();
        images = new Net[IMAGES];
        scratch = new Packet();
        writing = new Writing();
    }

    // ---- 1 the pad, stations

    public int say(int sign) {
        if (sign < 33 || sign > 126) {
            return OUTSIDE;
        }
        if (pad.size >= PAD_SIGNS) {
            return FULL;
        }
        pad.add(sign);
        return pad.size;
    }

    public int wipe() {
        int had = pad.size;
        pad.clear();
        return had;
    }

    public int fault() {
        return pad.readPacket(scratch);
    }

    public int name(int station, int what) {
        if (!isStation(station)) {
            return UNKNOWN;
        }
        if (what < 0 || what > 2) {
            return OUTSIDE;
        }
        int called = pad.readName();
        if (called == 0) {
            return FAULT;
        }
        Station one = net.stations[station];
        if (what == 0) {
            int owner = net.stationCalled(called);
            if (owner != NONE && owner != station) {
                return STATE;
            }
            one.call = called;
            pad.clear();
            return 1;
        }
        Names names = what == 1 ? one.standIns : one.floods;
        if (names.size >= MOST_NAMES) {
            return FULL;
        }
        names.add(called);
        pad.clear();
        return names.size;
    }

    public int forget(int station, int what) {
        if (!isStation(station)) {
            return UNKNOWN;
        }
        if (what < 1 || what > 2) {
            return OUTSIDE;
        }
        Station one = net.stations[station];
        Names names = what == 1 ? one.standIns : one.floods;
        int had = names.size;
        names.clear();
        return had;
    }

    public int set(int station, int what, int n) {
        if (!isStation(station)) {
            return UNKNOWN;
        }
        if (!isSetting(what, n)) {
            return OUTSIDE;
        }
        Station one = net.stations[station];
        int was;
        if (what == 0) {
            was = one.limit;
            one.limit = n;
        } else if (what == 1) {
            was = one.delay;
            one.delay = n;
        } else {
            was = one.window;
            one.window = n;
        }
        return was;
    }

    public int near(int one, int other, int is) {
        if (!isStation(one) || !isStation(other)) {
            return UNKNOWN;
        }
        if (is < 0 || is > 1 || one == other) {
            return OUTSIDE;
        }
        net.join(one, other, is == 1);
        return Integer.bitCount(net.nearSets[one]);
    }

    // ---- 2 packets

    public int send(int station) {
        if (!isStation(station)) {
            return UNKNOWN;
        }
        if (pad.readPacket(scratch) != NONE) {
            return FAULT;
        }
        Station one = net.stations[station];
        if (one.kept.size >= MOST_KEPT) {
            return FULL;
        }
        one.originate(scratch, net.now);
        pad.clear();
        return one.kept.size;
    }

    public int run(int n) {
        if (n < 1 || n > MOST_TICKS) {
            return OUTSIDE;
        }
        for (int i = 0; i < n; i++) {
            net.passTick();
        }
        return net.keptByAll();
    }

    public int heard(int station, int what) {
        if (!isStation(station)) {
            return UNKNOWN;
        }
        if (what < 0 || what > TALLIES + 1) {
            return OUTSIDE;
        }
        Station one = net.stations[station];
        if (what < TALLIES) {
            return one.tallies[what];
        }
        return what == TALLIES ? one.kept.size : one.known.size;
    }

    public int written(int station, int k) {
        if (!isStation(station)) {
            return UNKNOWN;
        }
        if (k < -1) {
            return OUTSIDE;
        }
        Station one = net.stations[station];
        if (!one.hasHeard()) {
            return STATE;
        }
        writing.write(one.latest);
        return k == -1 ? writing.size : writing.signAt(k);
    }

    public int last(int station, int what) {
        if (!isStation(station)) {
            return UNKNOWN;
        }
        if (what < 0 || what > 3) {
            return OUTSIDE;
        }
        Station one = net.stations[station];
        if (!one.hasHeard()) {
            return STATE;
        }
        Packet packet = one.latest;
        if (what == 0) {
            return packet.size;
        }
        if (what == 1) {
            return packet.spentWords();
        }
        if (what == 2) {
            return one.latestTick;
        }
        int first = packet.firstUnspent();
        return first == NONE ? NONE : packet.hopsAt(first);
    }

    public int trail(int station, int i) {
        if (!isStation(station)) {
            return UNKNOWN;
        }
        Station one = net.stations[station];
        if (!one.hasHeard()) {
            return STATE;
        }
        if (i == -1) {
            return one.latest.spentWords();
        }
        int at = one.latest.placeOfSpent(i);
        return at == NONE ? NONE : net.stationCalled(one.latest.nameAt(at));
    }

    // ---- 3 how far it comes

    public int reach(int station, int n, int what) {
        if (!isStation(station)) {
            return UNKNOWN;
        }
        if (!isHops(n) || what < 0 || what > 3) {
            return OUTSIDE;
        }
        int called = pad.readName();
        if (called == 0) {
            return FAULT;
        }
        trial.prepare(net);
        trial.spread(station, called, n);
        if (what == 0) {
            return trial.reached;
        }
        if (what == 1) {
            return trial.newest;
        }
        return trial.net.tallyOfAll(what == 2 ? SENT : CRASHES);
    }

    public int fewest(int from, int to) {
        if (!isStation(from) || !isStation(to)) {
            return UNKNOWN;
        }
        if (from == to) {
            return OUTSIDE;
        }
        int called = pad.readName();
        if (called == 0) {
            return FAULT;
        }
        for (int n = 1; n <= MOST_HOPS; n++) {
            trial.prepare(net);
            trial.spread(from, called, n);
            if (isIn(trial.reached, to)) {
                return n;
            }
        }
        return NONE;
    }

    public int bridges(int from, int to, int n) {
        if (!isStation(from) || !isStation(to)) {
            return UNKNOWN;
        }
        if (from == to || !isHops(n)) {
            return OUTSIDE;
        }
        int called = pad.readName();
        if (called == 0) {
            return FAULT;
        }
        trial.prepare(net);
        trial.spread(from, called, n);
        if (!isIn(trial.reached, to)) {
            return NONE;
        }
        int needed = 0;
        for (int s = 0; s < STATIONS; s++) {
            if (s != from && s != to) {
                trial.prepare(net);
                trial.net.isolate(s);
                trial.spread(from, called, n);
                if (!isIn(trial.reached, to)) {
                    needed |= 1 << s;
                }
            }
        }
        return needed;
    }

    // ---- 4 images

    public int image(int k) {
        if (k < 0 || k >= IMAGES) {
            return OUTSIDE;
        }
        if (images[k] == null) {
            images[k] = new Net();
        }
        images[k].copyFrom(net);
        return 1;
    }

    public int restore(int k) {
        if (k < 0 || k >= IMAGES) {
            return OUTSIDE;
        }
        if (images[k] == null) {
            return STATE;
        }
        net.copyFrom(images[k]);
        return 1;
    }

    public int count(int what) {
        switch (what) {
            case 0:
                return net.now;
            case 1:
                return pad.size;
            case 2:
                return net.keptByAll();
            case 3:
                return net.tallyOfAll(SENT);
            case 4:
                return net.tallyOfAll(CRASHES);
            case 5:
                return net.pairsNear();
            case 6:
                return imagesKept();
            default:
                return OUTSIDE;
        }
    }

    private int imagesKept() {
        int kept = 0;
        for (int k = 0; k < IMAGES; k++) {
            if (images[k] != null) {
                kept |= 1 << k;
            }
        }
        return kept;
    }

    private static boolean isStation(int s) {
        return s >= 0 && s < STATIONS;
    }

    private static boolean isHops(int n) {
        return n >= 1 && n <= MOST_HOPS;
    }

    private static boolean isIn(int stations, int s) {
        return ((stations >> s) & 1) != 0;
    }

    private static boolean isSetting(int what, int n) {
        switch (what) {
            case 0:
                return n >= 1 && n <= 7;
            case 1:
                return n >= 1 && n <= 3;
            case 2:
                return n >= 0 && n <= 60;
            default:
                return false;
        }
    }

    /**
     * A packet. Names and texts are numbers: five bits for each letter (1 to 26), the last letter
     * lowest, so that 0 is none and two texts are equal just if their numbers are. A word is a
     * number, too: its name, shifted left by four, its hops by one, and 1 if it is spent.
     */
    private static final class Packet {
        final int[] words = new int[MOST_WORDS];
        int size;
        int source;
        int text;

        void copyFrom(Packet other) {
            System.arraycopy(other.words, 0, words, 0, MOST_WORDS);
            size = other.size;
            source = other.source;
            text = other.text;
        }

        void clear() {
            size = 0;
            source = 0;
            text = 0;
        }

        void addWord(int called, int hops, boolean spent) {
            if (size < MOST_WORDS) {
                words[size] = (called << 4) | (hops << 1) | (spent ? 1 : 0);
                size++;
            }
        }

        boolean isPlace(int at) {
            return at >= 0 && at < size;
        }

        int nameAt(int at) {
            return isPlace(at) ? words[at] >> 4 : 0;
        }

        int hopsAt(int at) {
            return isPlace(at) ? (words[at] >> 1) & 7 : 0;
        }

        boolean isSpentAt(int at) {
            return isPlace(at) && (words[at] & 1) != 0;
        }

        int firstUnspent() {
            for (int at = 0; at < size; at++) {
                if ((words[at] & 1) == 0) {
                    return at;
                }
            }
            return NONE;
        }

        int spentWords() {
            int spent = 0;
            for (int at = 0; at < size; at++) {
                spent += words[at] & 1;
            }
            return spent;
        }

        /** The place of the i-th word, from 0 on, of those that are spent; NONE. */
        int placeOfSpent(int i) {
            int before = 0;
            for (int at = 0; at < size; at++) {
                if ((words[at] & 1) != 0) {
                    if (before == i) {
                        return at;
                    }
                    before++;
                }
            }
            return NONE;
        }

        /** Whether it comes from the one so called, or was repeated by it. */
        boolean wasSentBy(int call) {
            if (source == call) {
                return true;
            }
            int mark = call << 4;
            for (int at = 0; at < size; at++) {
                if ((words[at] & 1) != 0 && (words[at] & ~15) == mark) {
                    return true;
                }
            }
            return false;
        }

        void spend(int at, int call) {
            if (isPlace(at)) {
                words[at] = (call << 4) | 1;
            }
        }

        void setHops(int at, int hops) {
            if (isPlace(at)) {
                words[at] = (words[at] & ~14) | (hops << 1);
            }
        }

        /** Puts the call, spent, ahead of a word; with eight words there is no room, and it stays out. */
        void putAhead(int at, int call) {
            if (!isPlace(at) || size >= MOST_WORDS) {
                return;
            }
            for (int i = size; i > at; i--) {
                words[i] = words[i - 1];
            }
            words[at] = (call << 4) | 1;
            size++;
        }
    }

    /** The pad, and what is read from it. */
    private static final class Pad {
        final int[] signs = new int[PAD_SIGNS];
        int size;
        /** The place of the next sign that is read; where reading stopped, if it failed. */
        int at;

        void add(int sign) {
            if (size < PAD_SIGNS) {
                signs[size] = sign;
                size++;
            }
        }

        void clear() {
            size = 0;
        }

        /** The number of the name that the whole pad is; 0: it is none. */
        int readName() {
            at = 0;
            int called = readLetters('A', NAME_LETTERS);
            return at == size ? called : 0;
        }

        /** Reads the pad as a packet: its fault, or NONE. */
        int readPacket(Packet into) {
            at = 0;
            into.clear();
            into.source = readLetters('A', NAME_LETTERS);
            if (into.source == 0 || !take('>') || !readWords(into) || !take(':')) {
                return at;
            }
            into.text = readLetters('a', TEXT_LETTERS);
            if (into.text == 0 || at < size) {
                return at;
            }
            return NONE;
        }

        boolean readWords(Packet into) {
            if (peek() == ':') {
                return true;
            }
            for (int i = 0; i < PAD_WORDS; i++) {
                if (i > 0 && !take(',')) {
                    return true;
                }
                if (!readWord(into)) {
                    return false;
                }
            }
            return true;
        }

        boolean readWord(Packet into) {
            int called = readLetters('A', NAME_LETTERS);
            if (called == 0) {
                return false;
            }
            int hops = 0;
            if (take('-')) {
                hops = peek() - '0';
                if (!isHops(hops)) {
                    return false;
                }
                at++;
            }
            into.addWord(called, hops, take('*'));
            return true;
        }

        /** The number of the letters, up to so many, that come next, with first as the first of 26; 0: none. */
        int readLetters(int first, int most) {
            int letters = 0;
            for (int i = 0; i < most; i++) {
                int letter = peek() - first + 1;
                if (letter < 1 || letter > 26) {
                    return letters;
                }
                letters = (letters << 5) | letter;
                at++;
            }
            return letters;
        }

        boolean take(int sign) {
            if (peek() != sign) {
                return false;
            }
            at++;
            return true;
        }

        /** The sign that comes next; 0, which no sign is, behind the last. */
        int peek() {
            return at >= 0 && at < size && at < PAD_SIGNS ? signs[at] : 0;
        }
    }

    /** A packet as it is written out. */
    private static final class Writing {
        final int[] signs = new int[WRITTEN_SIGNS];
        int size;

        void write(Packet packet) {
            size = 0;
            putLetters(packet.source, 'A');
            put('>');
            for (int at = 0; at < packet.size; at++) {
                if (at > 0) {
                    put(',');
                }
                putWord(packet, at);
            }
            put(':');
            putLetters(packet.text, 'a');
        }

        int signAt(int k) {
            return k >= 0 && k < size && k < WRITTEN_SIGNS ? signs[k] : NONE;
        }

        void putWord(Packet packet, int at) {
            putLetters(packet.nameAt(at), 'A');
            if (packet.hopsAt(at) > 0) {
                put('-');
                put('0' + packet.hopsAt(at));
            }
            if (packet.isSpentAt(at)) {
                put('*');
            }
        }

        void putLetters(int letters, int first) {
            for (int i = TEXT_LETTERS - 1; i >= 0; i--) {
                int letter = (letters >> (5 * i)) & 31;
                if (letter > 0) {
                    put(first + letter - 1);
                }
            }
        }

        void put(int sign) {
            if (size < WRITTEN_SIGNS) {
                signs[size] = sign;
                size++;
            }
        }
    }

    /** Up to two names. */
    private static final class Names {
        final int[] names = new int[MOST_NAMES];
        int size;

        void copyFrom(Names other) {
            System.arraycopy(other.names, 0, names, 0, MOST_NAMES);
            size = other.size;
        }

        void clear() {
            size = 0;
        }

        void add(int called) {
            if (size < MOST_NAMES) {
                names[size] = called;
                size++;
            }
        }

        boolean has(int called) {
            for (int i = 0; i < size; i++) {
                if (names[i] == called) {
                    return true;
                }
            }
            return false;
        }
    }

    /** The packets that a station keeps till it sends them, the one kept longest first. */
    private static final class Kept {
        final Packet[] packets = new Packet[MOST_KEPT];
        final int[] dues = new int[MOST_KEPT];
        int size;

        Kept() {
            for (int i = 0; i < MOST_KEPT; i++) {
                packets[i] = new Packet();
            }
        }

        void copyFrom(Kept other) {
            for (int i = 0; i < other.size; i++) {
                packets[i].copyFrom(other.packets[i]);
                dues[i] = other.dues[i];
            }
            size = other.size;
        }

        void clear() {
            size = 0;
        }

        boolean add(Packet packet, int due) {
            if (size >= MOST_KEPT) {
                return false;
            }
            packets[size].copyFrom(packet);
            dues[size] = due;
            size++;
            return true;
        }

        /** Moves the packet kept longest of those that are due to another place; false: none is. */
        boolean takeDue(int tick, Packet into) {
            for (int i = 0; i < size; i++) {
                if (dues[i] <= tick) {
                    into.copyFrom(packets[i]);
                    removeAt(i);
                    return true;
                }
            }
            return false;
        }

        void removeAt(int at) {
            if (at < 0 || at >= size) {
                return;
            }
            // The freed object goes behind the others, so that it is used again and none is made.
            Packet freed = packets[at];
            for (int i = at + 1; i < size; i++) {
                packets[i - 1] = packets[i];
                dues[i - 1] = dues[i];
            }
            size--;
            packets[size] = freed;
        }
    }

    /** What a station knows, the one that came first ahead. */
    private static final class Known {
        final int[] sources = new int[MOST_KNOWN];
        final int[] texts = new int[MOST_KNOWN];
        final int[] ticks = new int[MOST_KNOWN];
        int size;

        void copyFrom(Known other) {
            System.arraycopy(other.sources, 0, sources, 0, MOST_KNOWN);
            System.arraycopy(other.texts, 0, texts, 0, MOST_KNOWN);
            System.arraycopy(other.ticks, 0, ticks, 0, MOST_KNOWN);
            size = other.size;
        }

        void clear() {
            size = 0;
        }

        int placeOf(Packet packet) {
            for (int i = 0; i < size; i++) {
                if (sources[i] == packet.source && texts[i] == packet.text) {
                    return i;
                }
            }
            return NONE;
        }

        void add(Packet packet, int tick) {
            if (size >= MOST_KNOWN) {
                removeAt(0);
            }
            sources[size] = packet.source;
            texts[size] = packet.text;
            ticks[size] = tick;
            size++;
        }

        void removeAt(int at) {
            if (at < 0 || at >= size) {
                return;
            }
            for (int i = at + 1; i < size; i++) {
                move(i, i - 1);
            }
            size--;
        }

        void dropOld(int tick, int window) {
            int stay = 0;
            for (int i = 0; i < size; i++) {
                if (tick - ticks[i] <= window) {
                    move(i, stay);
                    stay++;
                }
            }
            size = stay;
        }

        void move(int from, int to) {
            if (from >= 0 && from < MOST_KNOWN && to >= 0 && to < MOST_KNOWN) {
                sources[to] = sources[from];
                texts[to] = texts[from];
                ticks[to] = ticks[from];
            }
        }
    }

    private static final class Station {
        int call;
        final Names standIns = new Names();
        final Names floods = new Names();
        int limit = 3;
        int delay = 1;
        int window = 10;
        final int[] tallies = new int[TALLIES];
        final Kept kept = new Kept();
        final Known known = new Known();
        final Packet latest = new Packet();
        int latestTick;
        /** What it sends at this tick, if it sends. */
        final Packet air = new Packet();
        /** What it heard, as it is repeated. */
        final Packet changed = new Packet();

        Station(int call) {
            this.call = call;
        }

        void copyFrom(Station other) {
            copySettings(other);
            System.arraycopy(other.tallies, 0, tallies, 0, TALLIES);
            kept.copyFrom(other.kept);
            known.copyFrom(other.known);
            latest.copyFrom(other.latest);
            latestTick = other.latestTick;
        }

        /** As the other one is set, but as if nothing was sent or heard yet. */
        void beginLike(Station other) {
            copySettings(other);
            for (int i = 0; i < TALLIES; i++) {
                tallies[i] = 0;
            }
            kept.clear();
            known.clear();
        }

        void copySettings(Station other) {
            call = other.call;
            standIns.copyFrom(other.standIns);
            floods.copyFrom(other.floods);
            limit = other.limit;
            delay = other.delay;
            window = other.window;
        }

        boolean hasHeard() {
            return tallies[HEARD] > 0;
        }

        void originate(Packet packet, int tick) {
            kept.add(packet, tick);
            known.removeAt(known.placeOf(packet));
            known.add(packet, tick);
        }

        boolean startSending(int tick) {
            if (!kept.takeDue(tick, air)) {
                return false;
            }
            tallies[SENT]++;
            return true;
        }

        void hear(Packet packet, int tick) {
            latest.copyFrom(packet);
            latestTick = tick;
            tallies[HEARD]++;
            known.dropOld(tick, window);
            if (packet.wasSentBy(call)) {
                tallies[OWN]++;
                return;
            }
            if (known.placeOf(packet) != NONE) {
                tallies[DOUBLE]++;
                return;
            }
            known.add(packet, tick);
            int first = packet.firstUnspent();
            if (first == NONE) {
                tallies[END]++;
                return;
            }
            changed.copyFrom(packet);
            if (!changeIfMeant(changed, first)) {
                tallies[FOREIGN]++;
                return;
            }
            tallies[REPEATED]++;
            if (!kept.add(changed, tick + delay)) {
                tallies[LOST]++;
            }
        }

        /** Changes a packet as it is repeated, if its first word that is not spent is for this station. */
        boolean changeIfMeant(Packet packet, int first) {
            int called = packet.nameAt(first);
            int hops = packet.hopsAt(first);
            if (called == call || (hops == 0 && standIns.has(called))) {
                packet.spend(first, call);
                return true;
            }
            if (hops == 0 || !floods.has(called)) {
                return false;
            }
            int left = Math.min(hops, limit) - 1;
            if (left == 0) {
                packet.spend(first, call);
            } else {
                packet.setHops(first, left);
                packet.putAhead(first, call);
            }
            return true;
        }
    }

    /** The stations, who is near whom, and the tick that comes next. */
    private static final class Net {
        final Station[] stations = new Station[STATIONS];
        final int[] nearSets = new int[STATIONS];
        int now;

        Net() {
            for (int s = 0; s < STATIONS; s++) {
                stations[s] = new Station(s + 1);
            }
        }

        void copyFrom(Net other) {
            for (int s = 0; s < STATIONS; s++) {
                stations[s].copyFrom(other.stations[s]);
                nearSets[s] = other.nearSets[s];
            }
            now = other.now;
        }

        void beginLike(Net other) {
            for (int s = 0; s < STATIONS; s++) {
                stations[s].beginLike(other.stations[s]);
                nearSets[s] = other.nearSets[s];
            }
            now = 0;
        }

        void join(int one, int other, boolean is) {
            if (!isStation(one) || !isStation(other)) {
                return;
            }
            if (is) {
                nearSets[one] |= 1 << other;
                nearSets[other] |= 1 << one;
            } else {
                nearSets[one] &= ~(1 << other);
                nearSets[other] &= ~(1 << one);
            }
        }

        void isolate(int station) {
            for (int s = 0; s < STATIONS; s++) {
                if (s == station) {
                    nearSets[s] = 0;
                } else {
                    nearSets[s] &= ~(1 << station);
                }
            }
        }

        void passTick() {
            int senders = 0;
            for (int s = 0; s < STATIONS; s++) {
                if (stations[s].startSending(now)) {
                    senders |= 1 << s;
                }
            }
            for (int s = 0; s < STATIONS && senders != 0; s++) {
                int audible = isIn(senders, s) ? 0 : senders & nearSets[s];
                int sender = firstIn(audible);
                if (Integer.bitCount(audible) > 1) {
                    stations[s].tallies[CRASHES]++;
                } else if (sender != NONE) {
                    stations[s].hear(stations[sender].air, now);
                }
            }
            now++;
        }

        static int firstIn(int set) {
            for (int s = 0; s < STATIONS; s++) {
                if (isIn(set, s)) {
                    return s;
                }
            }
            return NONE;
        }

        int stationCalled(int called) {
            for (int s = 0; s < STATIONS; s++) {
                if (stations[s].call == called) {
                    return s;
                }
            }
            return NONE;
        }

        int keptByAll() {
            int all = 0;
            for (int s = 0; s < STATIONS; s++) {
                all += stations[s].kept.size;
            }
            return all;
        }

        int tallyOfAll(int what) {
            int all = 0;
            for (int s = 0; s < STATIONS && what >= 0 && what < TALLIES; s++) {
                all += stations[s].tallies[what];
            }
            return all;
        }

        int pairsNear() {
            int ends = 0;
            for (int s = 0; s < STATIONS; s++) {
                ends += Integer.bitCount(nearSets[s]);
            }
            return ends / 2;
        }

        int hearers() {
            int set = 0;
            for (int s = 0; s < STATIONS; s++) {
                if (stations[s].hasHeard()) {
                    set |= 1 << s;
                }
            }
            return set;
        }
    }

    /** A net beside the real one, in which it is tried how far a packet comes. */
    private static final class Trial {
        final Net net = new Net();
        final Packet packet = new Packet();
        int reached;
        int newest;

        void prepare(Net like) {
            net.beginLike(like);
        }

        void spread(int from, int called, int hops) {
            reached = 0;
            newest = NONE;
            if (!isStation(from)) {
                return;
            }
            packet.clear();
            packet.source = net.stations[from].call;
            packet.text = 1;
            packet.addWord(called, hops, false);
            net.stations[from].originate(packet, 0);
            for (int i = 0; i < TRIAL_TICKS && net.keptByAll() > 0; i++) {
                int tick = net.now;
                net.passTick();
                int hearers = net.hearers();
                if (hearers != reached) {
                    reached = hearers;
                    newest = tick;
                }
            }
        }
    }
}
