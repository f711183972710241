import java.util.Arrays;

/** One door for many houses; ../shared/DOC.md says what each call promises. */
public final class AnswerDoor {
    public static final int NONE = -1;

    private static final int LAST_TICK = 100000;
    private static final int HELPERS = 5;
    private static final int SPELLS = 20;
    private static final int TYPES = 6;
    private static final int FIELDS = 4;
    private static final int KEYS = 32;
    private static final int THINGS = TYPES * KEYS;
    private static final int ROW = 5;
    private static final int KEY_BITS = 5;
    private static final int NUMBER_LIMIT = 99999;
    private static final int ASKERS = 4;
    private static final int ALL_RIGHTS = 63;
    private static final int FULL_LIMIT = 500;
    private static final int PASS_LIMIT = 1000;
    private static final int ASK_TICKS_LIMIT = 200;

    private static final int KIND_NUMBER = 0;
    private static final int KIND_REF = 1;
    private static final int KIND_LIST = 2;

    private static final int TAPE_LIMIT = 200;
    private static final int FEED_BYTES = 20;
    private static final int NODES = 20;
    private static final int NODE_FIELDS = 6;
    private static final int LEVELS = 5;
    private static final int COST_LIMIT = 2000000000;

    private static final int REASON_NO_RIGHT = 1;
    private static final int REASON_NOT_THERE = 2;
    private static final int REASON_FAILED = 3;
    private static final int REASON_OPEN = 4;
    private static final int REASON_TOO_LATE = 5;
    private static final int REASON_MUST = 6;

    private final Clock clock;
    private final Helpers helpers;
    private final Store store;
    private final Tape tape;
    private final Tree tree;
    private final Reader reader;
    private final Calls calls;
    private final Round round;
    private final Teller teller;
    private int dearPlace;

    public AnswerDoor() {
        clock = new Clock();
        helpers = new Helpers();
        store = new Store();
        tape = new Tape();
        tree = new Tree();
        reader = new Reader(tree, store);
        calls = new Calls();
        round = new Round(clock, helpers, store, tree, calls);
        teller = new Teller(store, tree, round.fate);
        dearPlace = NONE;
    }

    public boolean helper(int h, int delay, int batch, int rate, int fails, int wait) {
        if (!within(h, 0, HELPERS - 1) || !within(delay, 1, 9) || !within(batch, 1, 8)
                || !within(rate, 1, 8) || !within(fails, 0, 9) || !within(wait, 1, 99)) {
            return false;
        }
        Helper told = helpers.each[h];
        told.delay = delay;
        told.batch = batch;
        told.rate = rate;
        told.fails = fails;
        told.wait = wait;
        told.close();
        return true;
    }

    public int down(int h, int from, int to) {
        if (!within(h, 0, HELPERS - 1) || !within(to, 0, LAST_TICK) || !within(from, 0, to)
                || helpers.spells >= SPELLS) {
            return NONE;
        }
        return helpers.addSpell(h, from, to);
    }

    public boolean type(int t, int helper, int price, int life) {
        if (!within(t, 0, TYPES - 1) || !within(helper, 0, HELPERS - 1) || !within(price, 1, 9)
                || !within(life, 0, 999)) {
            return false;
        }
        store.helperOf[t] = helper;
        store.price[t] = price;
        store.life[t] = life;
        for (int key = 0; key < KEYS; key++) {
            store.keptTo[t * KEYS + key] = 0;
        }
        return true;
    }

    public boolean field(int t, int f, int kind, int of, int most, boolean must) {
        if (!within(t, 0, TYPES - 1) || !within(f, 0, FIELDS - 1)
                || !within(kind, KIND_NUMBER, KIND_LIST) || !within(of, 0, TYPES - 1)
                || !within(most, 1, ROW)) {
            return false;
        }
        int place = t * FIELDS + f;
        store.kind[place] = kind;
        store.leadsTo[place] = of;
        store.most[place] = most;
        store.must[place] = must;
        return true;
    }

    public boolean thing(int t, int key, boolean is) {
        if (!isThing(t, key)) {
            return false;
        }
        int id = t * KEYS + key;
        if (store.there[id] == is) {
            return false;
        }
        store.there[id] = is;
        store.keptTo[id] = 0;
        return true;
    }

    public boolean number(int t, int key, int f, int v) {
        if (!isCell(t, key, f) || !within(v, -NUMBER_LIMIT, NUMBER_LIMIT)) {
            return false;
        }
        int id = t * KEYS + key;
        store.numbers[id * FIELDS + f] = v;
        store.keptTo[id] = 0;
        return true;
    }

    public boolean key(int t, int key, int f, int to) {
        if (!isCell(t, key, f) || !within(to, NONE, KEYS - 1)) {
            return false;
        }
        int id = t * KEYS + key;
        store.refs[id * FIELDS + f] = to;
        store.keptTo[id] = 0;
        return true;
    }

    public boolean row(int t, int key, int f, int n, int keys) {
        if (!isCell(t, key, f) || !within(n, 0, ROW)) {
            return false;
        }
        int id = t * KEYS + key;
        store.rowSizes[id * FIELDS + f] = n;
        store.rows[id * FIELDS + f] = keys;
        store.keptTo[id] = 0;
        return true;
    }

    public boolean asker(int a, int rights, int full, int fill) {
        if (!within(a, 0, ASKERS - 1) || !within(rights, 0, ALL_RIGHTS)
                || !within(full, 1, FULL_LIMIT) || !within(fill, 0, 50)) {
            return false;
        }
        clock.rights[a] = rights;
        clock.full[a] = full;
        clock.fill[a] = fill;
        clock.has[a] = Math.min(clock.has[a], full);
        return true;
    }

    public int pass(int ticks) {
        if (!within(ticks, 1, PASS_LIMIT) || clock.now + ticks > LAST_TICK) {
            return NONE;
        }
        clock.goBy(ticks);
        return clock.now;
    }

    public int feed(int a, int b, int c, int d, int e) {
        if (tape.length > TAPE_LIMIT - FEED_BYTES) {
            return NONE;
        }
        tape.addWord(a);
        tape.addWord(b);
        tape.addWord(c);
        tape.addWord(d);
        tape.addWord(e);
        return tape.length;
    }

    public int end(int n) {
        if (!within(n, 0, tape.length)) {
            return NONE;
        }
        tape.length = n;
        return n;
    }

    public int ask(int asker, int type, int key, int ticks) {
        if (!within(asker, 0, ASKERS - 1) || !isThing(type, key)
                || !within(ticks, 1, ASK_TICKS_LIMIT) || clock.now + ticks > LAST_TICK) {
            return NONE;
        }
        int fault = reader.read(tape, type);
        tape.length = 0;
        if (fault != 0) {
            return -2 - fault;
        }
        int price = tree.priceInAll(store);
        if (price > clock.has[asker]) {
            dearPlace = tree.placeAbove(clock.has[asker], store);
            return 2;
        }
        clock.has[asker] -= price;
        int id = type * KEYS + key;
        round.run(id, ticks, clock.rights[asker]);
        return teller.tell(id) ? 1 : 0;
    }

    public int cost(int type) {
        if (!within(type, 0, TYPES - 1)) {
            return NONE;
        }
        int fault = reader.read(tape, type);
        return fault != 0 ? -2 - fault : tree.priceInAll(store);
    }

    public int dear() {
        return dearPlace;
    }

    public int answer(int i) {
        return within(i, 0, teller.length - 1) ? teller.told[i] : NONE;
    }

    public int call(int k, int what) {
        if (!within(k, 0, calls.made - 1)) {
            return NONE;
        }
        switch (what) {
            case 0:
                return calls.helperOf[k];
            case 1:
                return calls.typeOf[k];
            case 2:
                return calls.tick[k];
            case 3:
                return calls.size[k];
            case 4:
                return calls.fate[k];
            default:
                return what < 10 ? NONE : calls.keyAt(k, what - 10);
        }
    }

    public int breaker(int h, int what) {
        if (!within(h, 0, HELPERS - 1)) {
            return NONE;
        }
        Helper looked = helpers.each[h];
        switch (what) {
            case 0:
                if (looked.closed) {
                    return 0;
                }
                return looked.isOpen(clock.now) ? 1 : 2;
            case 1:
                return looked.failed;
            case 2:
                return looked.closed ? NONE : looked.openTo;
            default:
                return NONE;
        }
    }

    public int kept(int t, int key) {
        if (!isThing(t, key)) {
            return NONE;
        }
        int id = t * KEYS + key;
        return store.keptTo[id] > clock.now ? store.keptTo[id] : NONE;
    }

    public int count(int what) {
        switch (what) {
            case 0:
                return clock.now;
            case 1:
                return tape.length;
            case 2:
                return calls.made;
            case 3:
                return teller.length;
            case 4:
                return round.asked;
            case 5:
                return round.nulls();
            case 6:
                return helpers.spells;
            default:
                return within(what, 10, 9 + ASKERS) ? clock.has[what - 10] : NONE;
        }
    }

    private static boolean within(int value, int low, int high) {
        return value >= low && value <= high;
    }

    private static boolean isThing(int t, int key) {
        return within(t, 0, TYPES - 1) && within(key, 0, KEYS - 1);
    }

    private static boolean isCell(int t, int key, int f) {
        return isThing(t, key) && within(f, 0, FIELDS - 1);
    }

    /** NOW, and the ASKERS with it, as their buckets fill while it goes on. */
    private static final class Clock {
        final int[] rights = new int[ASKERS];
        final int[] full = new int[ASKERS];
        final int[] fill = new int[ASKERS];
        final int[] has = new int[ASKERS];
        int now;

        Clock() {
            Arrays.fill(rights, ALL_RIGHTS);
            Arrays.fill(full, 100);
            Arrays.fill(fill, 10);
            Arrays.fill(has, 100);
        }

        void goBy(int ticks) {
            now += ticks;
            for (int a = 0; a < ASKERS; a++) {
                has[a] = Math.min(full[a], has[a] + ticks * fill[a]);
            }
        }
    }

    /** One HELPER with its BREAKER. */
    private static final class Helper {
        int delay = 1;
        int batch = 8;
        int rate = 8;
        int fails = 0;
        int wait = 10;
        boolean closed = true;
        int failed = 0;
        int openTo = 0;
        int tryCall = NONE;

        void close() {
            closed = true;
            failed = 0;
            tryCall = NONE;
        }

        void open(int now) {
            closed = false;
            failed = 0;
            openTo = now + wait;
            tryCall = NONE;
        }

        boolean isOpen(int now) {
            return !closed && now < openTo;
        }

        void cameBack(int k, boolean hasFailed, int now) {
            // Calls made ahead of the opening tell nothing: the try alone does.
            boolean counts = fails > 0 && (closed || k == tryCall);
            if (!counts) {
                return;
            }
            if (!hasFailed) {
                close();
                return;
            }
            failed++;
            if (!closed || failed >= fails) {
                open(now);
            }
        }
    }

    /** All HELPERS and the spells in which they are DOWN. */
    private static final class Helpers {
        final Helper[] each = new Helper[HELPERS];
        int spells;
        private final int[] spellOf = new int[SPELLS];
        private final int[] spellFrom = new int[SPELLS];
        private final int[] spellTo = new int[SPELLS];

        Helpers() {
            for (int h = 0; h < HELPERS; h++) {
                each[h] = new Helper();
            }
        }

        int addSpell(int h, int from, int to) {
            if (spells >= SPELLS) {
                return NONE;
            }
            spellOf[spells] = h;
            spellFrom[spells] = from;
            spellTo[spells] = to;
            spells++;
            return spells;
        }

        boolean isDown(int h, int tick) {
            for (int s = 0; s < spells; s++) {
                if (spellOf[s] == h && within(tick, spellFrom[s], spellTo[s])) {
                    return true;
                }
            }
            return false;
        }
    }

    /**
     * TYPES, their FIELDS, and THINGS. A THING's id is TYPE * KEYS + KEY.
     * Of what is KEPT the TICK behind its LIFE is enough: all that changes a THING makes it go.
     */
    private static final class Store {
        final int[] helperOf = new int[TYPES];
        final int[] price = new int[TYPES];
        final int[] life = new int[TYPES];
        final int[] kind = new int[TYPES * FIELDS];
        final int[] leadsTo = new int[TYPES * FIELDS];
        final int[] most = new int[TYPES * FIELDS];
        final boolean[] must = new boolean[TYPES * FIELDS];
        final boolean[] there = new boolean[THINGS];
        final int[] keptTo = new int[THINGS];
        final int[] numbers = new int[THINGS * FIELDS];
        final int[] refs = new int[THINGS * FIELDS];
        final int[] rowSizes = new int[THINGS * FIELDS];
        final int[] rows = new int[THINGS * FIELDS];

        Store() {
            Arrays.fill(price, 1);
            Arrays.fill(most, ROW);
            Arrays.fill(refs, NONE);
        }

        void keep(int id, int now) {
            int lives = life[id / KEYS];
            if (lives > 0) {
                keptTo[id] = now + lives;
            }
        }

        int fieldPlace(int id, int f) {
            return id / KEYS * FIELDS + f;
        }

        /** How many THINGS a FIELD of a THING leads to. */
        int links(int id, int f) {
            int place = fieldPlace(id, f);
            int cell = id * FIELDS + f;
            switch (kind[place]) {
                case KIND_REF:
                    return refs[cell] == NONE ? 0 : 1;
                case KIND_LIST:
                    return Math.min(rowSizes[cell], most[place]);
                default:
                    return 0;
            }
        }

        /** The id of the THING that link j (one of links()) leads to. */
        int linked(int id, int f, int j) {
            int place = fieldPlace(id, f);
            int cell = id * FIELDS + f;
            int key = kind[place] == KIND_REF ? refs[cell] : rows[cell] >>> (j * KEY_BITS);
            return leadsTo[place] * KEYS + (key & (KEYS - 1));
        }
    }

    /** The bytes that have come and were not asked yet. */
    private static final class Tape {
        final int[] bytes = new int[TAPE_LIMIT];
        int length;

        void addWord(int word) {
            for (int shift = 24; shift >= 0 && length < TAPE_LIMIT; shift -= 8) {
                bytes[length] = (word >>> shift) & 255;
                length++;
            }
        }
    }

    /** The NODES of a text, in the order of their places in it. */
    private static final class Tree {
        final int[] type = new int[NODES];
        final int[] place = new int[NODES];
        final int[] times = new int[NODES];
        final int[] level = new int[NODES];
        final int[] width = new int[NODES];
        final int[] fields = new int[NODES * NODE_FIELDS];
        final int[] children = new int[NODES * NODE_FIELDS];
        int nodes;

        int priceInAll(Store store) {
            long sum = 0;
            for (int n = 0; n < nodes; n++) {
                sum += priceOf(n, store);
            }
            return (int) Math.min(sum, (long) COST_LIMIT);
        }

        /** The place of the first NODE with which the price is above what there is to pay it. */
        int placeAbove(int has, Store store) {
            long sum = 0;
            for (int n = 0; n < nodes; n++) {
                sum += priceOf(n, store);
                if (sum > has) {
                    return place[n];
                }
            }
            return NONE;
        }

        private long priceOf(int n, Store store) {
            return (long) store.price[type[n]] * times[n];
        }
    }

    /** Reads a text into the tree, byte by byte, up to its first FAULT. */
    private static final class Reader {
        private static final int FINE = -1;
        private static final int BAD_BYTE = 0;
        private static final int TOO_MANY = 1;
        private static final int TOO_WIDE = 2;

        private static final int WANTS_NODE = 0;
        private static final int WANTS_FIELD = 1;
        private static final int WANTS_END = 2;

        private final Tree tree;
        private final Store store;
        private final int[] openNodes = new int[LEVELS];
        private int level;
        private int wants;
        private int nextType;
        private int nextTimes;
        private int nextSlot;

        Reader(Tree tree, Store store) {
            this.tree = tree;
            this.store = store;
        }

        /** The FAULT, or 0 without one. */
        int read(Tape tape, int type) {
            tree.nodes = 0;
            level = 0;
            wants = WANTS_NODE;
            nextType = type;
            nextTimes = 1;
            nextSlot = NONE;
            for (int at = 0; at < tape.length; at++) {
                int wrong = tape.bytes[at] == ' ' ? FINE : take(tape.bytes[at], at);
                if (wrong != FINE) {
                    return 1 + 4 * at + wrong;
                }
            }
            return wants == WANTS_END ? 0 : 1 + 4 * tape.length + BAD_BYTE;
        }

        private int take(int b, int at) {
            if (wants == WANTS_NODE) {
                return b == '{' ? openNode(at) : BAD_BYTE;
            }
            if (wants == WANTS_END || level < 1) {
                return BAD_BYTE;
            }
            int node = openNodes[level - 1];
            if (b == '}') {
                return closeNode(node);
            }
            return within(b, '0', '3') ? addField(node, b - '0') : BAD_BYTE;
        }

        private int openNode(int at) {
            if (tree.nodes >= NODES || level >= LEVELS) {
                return TOO_MANY;
            }
            int node = tree.nodes;
            tree.nodes++;
            tree.type[node] = nextType;
            tree.times[node] = nextTimes;
            tree.place[node] = at;
            tree.width[node] = 0;
            openNodes[level] = node;
            level++;
            tree.level[node] = level;
            if (nextSlot != NONE) {
                tree.children[nextSlot] = node;
            }
            wants = WANTS_FIELD;
            return FINE;
        }

        private int closeNode(int node) {
            if (tree.width[node] == 0) {
                return BAD_BYTE;
            }
            level--;
            wants = level == 0 ? WANTS_END : WANTS_FIELD;
            return FINE;
        }

        private int addField(int node, int f) {
            if (tree.width[node] >= NODE_FIELDS) {
                return TOO_WIDE;
            }
            int slot = node * NODE_FIELDS + tree.width[node];
            tree.width[node]++;
            tree.fields[slot] = f;
            tree.children[slot] = NONE;
            int place = tree.type[node] * FIELDS + f;
            if (store.kind[place] != KIND_NUMBER) {
                boolean isList = store.kind[place] == KIND_LIST;
                nextType = store.leadsTo[place];
                nextTimes = tree.times[node] * (isList ? store.most[place] : 1);
                nextSlot = slot;
                wants = WANTS_NODE;
            }
            return FINE;
        }
    }

    /** The calls of one ASK, in the order in which they are made; each has a KEY at least. */
    private static final class Calls {
        static final int CAME_BACK = 0;
        static final int FAILED = 1;
        static final int FORGOTTEN = 2;
        static final int ON_ITS_WAY = 3;

        final int[] helperOf = new int[THINGS];
        final int[] typeOf = new int[THINGS];
        final int[] tick = new int[THINGS];
        final int[] size = new int[THINGS];
        final int[] fate = new int[THINGS];
        int made;
        /** All calls ahead of this one have come back. */
        int firstOnWay;
        private final int[] start = new int[THINGS];
        private final int[] keys = new int[THINGS];
        private int keysInAll;

        void clear() {
            made = 0;
            firstOnWay = 0;
            keysInAll = 0;
        }

        void begin(int helper, int type, int now) {
            if (made >= THINGS) {
                return;
            }
            helperOf[made] = helper;
            typeOf[made] = type;
            tick[made] = now;
            size[made] = 0;
            fate[made] = ON_ITS_WAY;
            start[made] = keysInAll;
            made++;
        }

        void addKey(int key) {
            if (made < 1 || keysInAll >= THINGS) {
                return;
            }
            keys[keysInAll] = key;
            keysInAll++;
            size[made - 1]++;
        }

        int keyAt(int k, int i) {
            return within(i, 0, size[k] - 1) ? keys[start[k] + i] : NONE;
        }

        void finish(int k, int how) {
            fate[k] = how;
            while (firstOnWay < made && fate[firstOnWay] != ON_ITS_WAY) {
                firstOnWay++;
            }
        }
    }

    /** The answering of one ASK, TICK by TICK. */
    private static final class Round {
        /** A THING's fate is one of these, or the reason for which it is null. */
        static final int UNSEEN = 0;
        static final int KNOWN = 10;
        static final int WAITS = 11;
        static final int IN_CALL = 12;

        final int[] fate = new int[THINGS];
        /** THINGS ASKED FOR. */
        int asked;
        private final Clock clock;
        private final Helpers helpers;
        private final Store store;
        private final Tree tree;
        private final Calls calls;
        /** Of each THING a bit for each NODE by which it was NEEDED. */
        private final int[] neededBy = new int[THINGS];
        private final int[] queue = new int[THINGS];
        /** All of the queue ahead of this place waits no more. */
        private int firstWaiting;
        private final int[] waiting = new int[HELPERS];
        private int rights;

        Round(Clock clock, Helpers helpers, Store store, Tree tree, Calls calls) {
            this.clock = clock;
            this.helpers = helpers;
            this.store = store;
            this.tree = tree;
            this.calls = calls;
        }

        void run(int id, int ticks, int askerRights) {
            clear();
            rights = askerRights;
            need(0, id, 1);
            for (int gone = 0; gone < ticks; gone++) {
                makeCalls();
                if (isDone()) {
                    return;
                }
                clock.goBy(1);
                bringBack();
            }
            forgetTheRest();
        }

        int nulls() {
            int sum = 0;
            for (int id = 0; id < THINGS; id++) {
                if (within(fate[id], REASON_NO_RIGHT, REASON_TOO_LATE)) {
                    sum++;
                }
            }
            return sum;
        }

        private void clear() {
            Arrays.fill(fate, UNSEEN);
            Arrays.fill(neededBy, 0);
            Arrays.fill(waiting, 0);
            asked = 0;
            firstWaiting = 0;
            calls.clear();
        }

        private boolean isDone() {
            return calls.firstOnWay >= calls.made && firstWaiting >= asked;
        }

        private void need(int node, int id, int depth) {
            if (depth > LEVELS || node == NONE) {
                return;
            }
            int bit = 1 << node;
            if ((neededBy[id] & bit) != 0) {
                return;
            }
            neededBy[id] |= bit;
            if (fate[id] == UNSEEN) {
                meet(id);
            }
            if (fate[id] == KNOWN) {
                follow(node, id, depth);
            }
        }

        private void follow(int node, int id, int depth) {
            for (int i = 0; i < tree.width[node]; i++) {
                int slot = node * NODE_FIELDS + i;
                int links = store.links(id, tree.fields[slot]);
                for (int j = 0; j < links; j++) {
                    need(tree.children[slot], store.linked(id, tree.fields[slot], j), depth + 1);
                }
            }
        }

        /** What becomes of a THING as it is NEEDED for the first time. */
        private void meet(int id) {
            int type = id / KEYS;
            if ((rights >> type & 1) == 0) {
                fate[id] = REASON_NO_RIGHT;
            } else if (store.keptTo[id] > clock.now) {
                fate[id] = KNOWN;
            } else if (asked < THINGS) {
                fate[id] = WAITS;
                queue[asked] = id;
                asked++;
                waiting[store.helperOf[type]]++;
            }
        }

        private void bringBack() {
            int made = calls.made;
            for (int k = calls.firstOnWay; k < made; k++) {
                int back = calls.tick[k] + helpers.each[calls.helperOf[k]].delay;
                if (calls.fate[k] == Calls.ON_ITS_WAY && back == clock.now) {
                    takeBack(k);
                }
            }
        }

        private void takeBack(int k) {
            int h = calls.helperOf[k];
            boolean hasFailed = helpers.isDown(h, calls.tick[k]);
            calls.finish(k, hasFailed ? Calls.FAILED : Calls.CAME_BACK);
            helpers.each[h].cameBack(k, hasFailed, clock.now);
            for (int i = 0; i < calls.size[k]; i++) {
                int id = calls.typeOf[k] * KEYS + calls.keyAt(k, i);
                if (hasFailed) {
                    fate[id] = REASON_FAILED;
                } else if (!store.there[id]) {
                    fate[id] = REASON_NOT_THERE;
                } else {
                    learn(id);
                }
            }
        }

        private void learn(int id) {
            fate[id] = KNOWN;
            store.keep(id, clock.now);
            // NODES that come to need it from here on go on with it by themselves.
            int nodes = neededBy[id];
            for (int n = 0; n < tree.nodes; n++) {
                if ((nodes >> n & 1) != 0) {
                    follow(n, id, tree.level[n]);
                }
            }
        }

        private void makeCalls() {
            for (int h = 0; h < HELPERS; h++) {
                if (waiting[h] > 0) {
                    turnTo(h);
                }
            }
            while (firstWaiting < asked && fate[queue[firstWaiting]] != WAITS) {
                firstWaiting++;
            }
        }

        private void turnTo(int h) {
            Helper helper = helpers.each[h];
            if (helper.isOpen(clock.now)) {
                refuseAll(h);
            } else if (helper.closed) {
                for (int made = 0; made < helper.rate && waiting[h] > 0; made++) {
                    makeCall(h, helper.batch);
                }
            } else if (helper.tryCall == NONE) {
                helper.tryCall = calls.made;
                makeCall(h, helper.batch);
            }
        }

        private void refuseAll(int h) {
            for (int q = firstWaiting; q < asked; q++) {
                int id = queue[q];
                if (fate[id] == WAITS && store.helperOf[id / KEYS] == h) {
                    fate[id] = REASON_OPEN;
                }
            }
            waiting[h] = 0;
        }

        private void makeCall(int h, int batch) {
            int type = NONE;
            int taken = 0;
            for (int q = firstWaiting; q < asked && taken < batch; q++) {
                int id = queue[q];
                int itsType = id / KEYS;
                if (fate[id] != WAITS) {
                    continue;
                }
                if (type == NONE && store.helperOf[itsType] == h) {
                    type = itsType;
                    calls.begin(h, type, clock.now);
                }
                if (itsType == type) {
                    calls.addKey(id % KEYS);
                    fate[id] = IN_CALL;
                    waiting[h]--;
                    taken++;
                }
            }
        }

        private void forgetTheRest() {
            for (int k = calls.firstOnWay; k < calls.made; k++) {
                if (calls.fate[k] == Calls.ON_ITS_WAY) {
                    calls.fate[k] = Calls.FORGOTTEN;
                    Helper helper = helpers.each[calls.helperOf[k]];
                    if (helper.tryCall == k) {
                        helper.open(clock.now);
                    }
                }
            }
            for (int q = 0; q < asked; q++) {
                int id = queue[q];
                if (fate[id] == WAITS || fate[id] == IN_CALL) {
                    fate[id] = REASON_TOO_LATE;
                }
            }
        }
    }

    /** Tells what has become of the THINGS of an ASK as numbers. */
    private static final class Teller {
        /**
         * Each THING told is paid with 1 at least, so a full bucket buys FULL_LIMIT of them;
         * each has its own number and one at most for each FIELD (a null has two; a REF's
         * are those of the THING behind it, paid too where it is NONE).
         */
        private static final int TOLD_LIMIT = FULL_LIMIT * (1 + NODE_FIELDS);

        final int[] told = new int[TOLD_LIMIT];
        int length;
        private final Store store;
        private final Tree tree;
        private final int[] fate;
        private boolean hasNull;

        Teller(Store store, Tree tree, int[] fate) {
            this.store = store;
            this.tree = tree;
            this.fate = fate;
        }

        /** Whether there is a null somewhere. */
        boolean tell(int id) {
            length = 0;
            hasNull = false;
            tellThing(0, id, 1);
            return hasNull;
        }

        /** Whether it is not null. */
        private boolean tellThing(int node, int id, int depth) {
            if (fate[id] != Round.KNOWN || depth > LEVELS || node == NONE) {
                return tellNull(fate[id]);
            }
            int start = length;
            put(1);
            for (int i = 0; i < tree.width[node]; i++) {
                int slot = node * NODE_FIELDS + i;
                boolean isThere = tellField(slot, id, depth);
                if (!isThere && store.must[store.fieldPlace(id, tree.fields[slot])]) {
                    length = start;
                    return tellNull(REASON_MUST);
                }
            }
            return true;
        }

        private boolean tellField(int slot, int id, int depth) {
            int f = tree.fields[slot];
            int kind = store.kind[store.fieldPlace(id, f)];
            if (kind == KIND_NUMBER) {
                put(store.numbers[id * FIELDS + f]);
                return true;
            }
            int links = store.links(id, f);
            if (kind == KIND_LIST) {
                put(links);
            } else if (links == 0) {
                return tellNull(REASON_NOT_THERE);
            }
            boolean allThere = true;
            for (int j = 0; j < links; j++) {
                boolean isThere = tellThing(tree.children[slot], store.linked(id, f, j), depth + 1);
                allThere = allThere && isThere;
            }
            return allThere;
        }

        private boolean tellNull(int reason) {
            hasNull = true;
            put(0);
            put(reason);
            return false;
        }

        private void put(int value) {
            if (length < TOLD_LIMIT) {
                told[length] = value;
                length++;
            }
        }
    }
}
