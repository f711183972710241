import java.util.ArrayList;
import java.util.Collections;
import java.util.HashMap;
import java.util.List;
import java.util.Map;
import java.util.Random;
import java.util.TreeSet;

/** Random runs (of fixed seeds) against a slow second telling of the document, call by call. */
public final class ModelRuns {
    private static final int RUNS = 12000;
    /** An object's later calls are free. */
    private static final int CALLS = 512;
    /** Behind so many the rest of a run's calls looks only. */
    private static final int CALLS_AHEAD_OF_LOOKS = 440;

    /** A text's NODE. */
    static final class Node {
        int number;
        int type;
        int place;
        int price;
        List<Integer> fields = new ArrayList<>();
        List<Node> behind = new ArrayList<>();
    }

    static final class Fault extends RuntimeException {
        private static final long serialVersionUID = 1;
        final int code;

        Fault(int place, int kind) {
            super("fault", null, false, false);
            code = 1 + 4 * place + kind;
        }
    }

    static final class Helper {
        int delay = 1;
        int batch = 8;
        int rate = 8;
        int fails = 0;
        int wait = 10;
        int counted = 0;
        int openTo = -1;
        Call tried = null;
    }

    static final class Call {
        int helper;
        int type;
        int tick;
        List<Integer> keys = new ArrayList<>();
        int fate = 3;
    }

    static final class Thing {
        int type;
        int key;
        int keptTo = -1;
        boolean there;
        int[] numbers = new int[4];
        int[] keys = {-1, -1, -1, -1};
        List<List<Integer>> rows = new ArrayList<>();
        String state;
        int reason;
        TreeSet<Integer> by = new TreeSet<>();
    }

    static final class Model {
        int now = 0;
        Helper[] helpers = new Helper[5];
        List<int[]> spells = new ArrayList<>();
        int[][] types = new int[6][];
        int[][][] fields = new int[6][4][];
        Thing[][] things = new Thing[6][32];
        int[][] askers = new int[4][];
        String tape = "";
        int dear = -1;
        List<Integer> answer = new ArrayList<>();
        List<Call> calls = new ArrayList<>();
        List<Thing> asked = new ArrayList<>();
        int nulls = 0;
        List<Node> nodes = new ArrayList<>();
        int rights;
        boolean nullSeen;

        Model() {
            for (int h = 0; h < 5; h++) {
                helpers[h] = new Helper();
            }
            for (int t = 0; t < 6; t++) {
                types[t] = new int[] {0, 1, 0};
                for (int f = 0; f < 4; f++) {
                    fields[t][f] = new int[] {0, 0, 5, 0};
                }
                for (int k = 0; k < 32; k++) {
                    things[t][k] = new Thing();
                    things[t][k].type = t;
                    things[t][k].key = k;
                    for (int f = 0; f < 4; f++) {
                        things[t][k].rows.add(new ArrayList<>());
                    }
                }
            }
            for (int a = 0; a < 4; a++) {
                askers[a] = new int[] {63, 100, 10, 100};
            }
        }

        static boolean in(int v, int low, int high) {
            return low <= v && v <= high;
        }

        boolean helper(int h, int delay, int batch, int rate, int fails, int wait) {
            boolean fine = in(h, 0, 4) && in(delay, 1, 9) && in(batch, 1, 8) && in(rate, 1, 8) && in(fails, 0, 9)
                && in(wait, 1, 99);
            if (fine) {
                Helper x = new Helper();
                x.delay = delay;
                x.batch = batch;
                x.rate = rate;
                x.fails = fails;
                x.wait = wait;
                helpers[h] = x;
            }
            return fine;
        }

        int down(int h, int from, int to) {
            if (!in(h, 0, 4) || !in(from, 0, 100000) || !in(to, 0, 100000) || from > to || spells.size() == 20) {
                return -1;
            }
            spells.add(new int[] {h, from, to});
            return spells.size();
        }

        boolean type(int t, int helper, int price, int life) {
            if (!in(t, 0, 5) || !in(helper, 0, 4) || !in(price, 1, 9) || !in(life, 0, 999)) {
                return false;
            }
            types[t] = new int[] {helper, price, life};
            for (Thing x : things[t]) {
                x.keptTo = -1;
            }
            return true;
        }

        boolean field(int t, int f, int kind, int of, int most, boolean must) {
            if (!in(t, 0, 5) || !in(f, 0, 3) || !in(kind, 0, 2) || !in(of, 0, 5) || !in(most, 1, 5)) {
                return false;
            }
            fields[t][f] = new int[] {kind, of, most, must ? 1 : 0};
            return true;
        }

        Thing find(int t, int key) {
            return in(t, 0, 5) && in(key, 0, 31) ? things[t][key] : null;
        }

        boolean thing(int t, int key, boolean is) {
            Thing x = find(t, key);
            if (x == null || x.there == is) {
                return false;
            }
            x.there = is;
            x.keptTo = -1;
            return true;
        }

        boolean number(int t, int key, int f, int v) {
            Thing x = find(t, key);
            if (x == null || !in(f, 0, 3) || !in(v, -99999, 99999)) {
                return false;
            }
            x.numbers[f] = v;
            x.keptTo = -1;
            return true;
        }

        boolean key(int t, int key, int f, int to) {
            Thing x = find(t, key);
            if (x == null || !in(f, 0, 3) || !in(to, -1, 31)) {
                return false;
            }
            x.keys[f] = to;
            x.keptTo = -1;
            return true;
        }

        boolean row(int t, int key, int f, int n, int keys) {
            Thing x = find(t, key);
            if (x == null || !in(f, 0, 3) || !in(n, 0, 5)) {
                return false;
            }
            List<Integer> row = new ArrayList<>();
            for (int i = 0; i < n; i++) {
                row.add((keys >> (5 * i)) & 31);
            }
            x.rows.set(f, row);
            x.keptTo = -1;
            return true;
        }

        boolean asker(int a, int rights, int full, int fill) {
            if (!in(a, 0, 3) || !in(rights, 0, 63) || !in(full, 1, 500) || !in(fill, 0, 50)) {
                return false;
            }
            askers[a] = new int[] {rights, full, fill, Math.min(full, askers[a][3])};
            return true;
        }

        int pass(int ticks) {
            if (!in(ticks, 1, 1000) || now + ticks > 100000) {
                return -1;
            }
            for (int i = 0; i < ticks; i++) {
                tick();
            }
            return now;
        }

        void tick() {
            now++;
            for (int[] a : askers) {
                a[3] = Math.min(a[1], a[3] + a[2]);
            }
        }

        int feed(int[] words) {
            if (tape.length() + 20 > 200) {
                return -1;
            }
            for (int w : words) {
                tape += "" + (char) (w >> 24 & 255) + (char) (w >> 16 & 255) + (char) (w >> 8 & 255)
                    + (char) (w & 255);
            }
            return tape.length();
        }

        int end(int n) {
            if (n < 0 || n > tape.length()) {
                return -1;
            }
            tape = tape.substring(0, n);
            return n;
        }

        // The reader: by recursion, at is the place of the next byte.
        int at;

        char next() {
            while (at < tape.length() && tape.charAt(at) == ' ') {
                at++;
            }
            return at < tape.length() ? tape.charAt(at) : '$';
        }

        Node readNode(int type, int times, int depth) {
            if (next() != '{') {
                throw new Fault(at, 0);
            }
            if (nodes.size() == 20 || depth == 6) {
                throw new Fault(at, 1);
            }
            Node node = new Node();
            node.number = nodes.size();
            node.type = type;
            node.place = at;
            node.price = types[type][1] * times;
            nodes.add(node);
            at++;
            while (next() != '}' || node.fields.isEmpty()) {
                int f = next() - '0';
                if (at >= tape.length() || f < 0 || f > 3) {
                    throw new Fault(at, 0);
                }
                if (node.fields.size() == 6) {
                    throw new Fault(at, 2);
                }
                at++;
                int[] field = fields[type][f];
                node.fields.add(f);
                node.behind.add(null);
                if (field[0] > 0) {
                    Node behind = readNode(field[1], times * (field[0] == 2 ? field[2] : 1), depth + 1);
                    node.behind.set(node.fields.size() - 1, behind);
                }
            }
            at++;
            return node;
        }

        Node read(int type) {
            nodes = new ArrayList<>();
            at = 0;
            Node root = readNode(type, 1, 1);
            next();
            if (at < tape.length()) {
                throw new Fault(at, 0);
            }
            return root;
        }

        int cost(int type) {
            if (!in(type, 0, 5)) {
                return -1;
            }
            try {
                read(type);
            } catch (Fault f) {
                return -2 - f.code;
            }
            return nodes.stream().mapToInt(n -> n.price).sum();
        }

        int ask(int a, int type, int key, int ticks) {
            if (!in(a, 0, 3) || find(type, key) == null || !in(ticks, 1, 200) || now + ticks > 100000) {
                return -1;
            }
            Node root;
            try {
                root = read(type);
            } catch (Fault f) {
                return -2 - f.code;
            } finally {
                tape = "";
            }
            int sum = 0;
            for (Node n : nodes) {
                sum += n.price;
                if (sum > askers[a][3]) {
                    dear = n.place;
                    return 2;
                }
            }
            askers[a][3] -= sum;
            rights = askers[a][0];
            run(root, find(type, key), ticks);
            nullSeen = false;
            answer = told(root, find(type, key));
            nulls = 0;
            for (Thing[] row : things) {
                for (Thing x : row) {
                    nulls += "null".equals(x.state) ? 1 : 0;
                }
            }
            return nullSeen ? 1 : 0;
        }

        void run(Node root, Thing first, int ticks) {
            for (Thing[] row : things) {
                for (Thing x : row) {
                    x.state = "unseen";
                    x.by.clear();
                }
            }
            asked = new ArrayList<>();
            calls = new ArrayList<>();
            int last = now + ticks;
            need(root, first);
            while (true) {
                for (Call c : new ArrayList<>(calls)) {
                    if (c.fate == 3 && c.tick + helpers[c.helper].delay == now) {
                        back(c);
                    }
                }
                if (now == last) {
                    break;
                }
                for (int h = 0; h < 5; h++) {
                    make(h);
                }
                boolean over = calls.stream().noneMatch(c -> c.fate == 3)
                    && asked.stream().noneMatch(x -> x.state.equals("waits"));
                if (over) {
                    return;
                }
                tick();
            }
            for (Call c : calls) {
                if (c.fate == 3) {
                    c.fate = 2;
                    Helper h = helpers[c.helper];
                    if (h.tried == c) {
                        h.tried = null;
                        h.openTo = now + h.wait;
                    }
                }
            }
            for (Thing x : asked) {
                if (x.state.equals("waits") || x.state.equals("called")) {
                    toNull(x, 5);
                }
            }
        }

        void toNull(Thing x, int reason) {
            x.state = "null";
            x.reason = reason;
        }

        void need(Node node, Thing x) {
            boolean isNew = x.by.add(node.number);
            if (x.state.equals("unseen")) {
                if ((rights & 1 << x.type) == 0) {
                    toNull(x, 1);
                } else if (x.keptTo > now) {
                    x.state = "known";
                } else {
                    x.state = "waits";
                    asked.add(x);
                }
            }
            if (isNew && x.state.equals("known")) {
                follow(node, x);
            }
        }

        List<Thing> behind(Thing x, int f) {
            int[] field = fields[x.type][f];
            List<Thing> out = new ArrayList<>();
            if (field[0] == 1 && x.keys[f] >= 0) {
                out.add(things[field[1]][x.keys[f]]);
            }
            if (field[0] == 2) {
                for (int k : x.rows.get(f)) {
                    if (out.size() < field[2]) {
                        out.add(things[field[1]][k]);
                    }
                }
            }
            return out;
        }

        void follow(Node node, Thing x) {
            for (int i = 0; i < node.fields.size(); i++) {
                for (Thing y : behind(x, node.fields.get(i))) {
                    need(node.behind.get(i), y);
                }
            }
        }

        boolean isDown(int h, int tick) {
            return spells.stream().anyMatch(s -> s[0] == h && s[1] <= tick && tick <= s[2]);
        }

        void back(Call c) {
            Helper h = helpers[c.helper];
            boolean failed = isDown(c.helper, c.tick);
            c.fate = failed ? 1 : 0;
            for (int k : c.keys) {
                Thing x = things[c.type][k];
                if (failed) {
                    toNull(x, 3);
                } else if (!x.there) {
                    toNull(x, 2);
                } else {
                    x.state = "known";
                    x.keptTo = types[c.type][2] == 0 ? -1 : now + types[c.type][2];
                    for (int n : new ArrayList<>(x.by)) {
                        follow(nodes.get(n), x);
                    }
                }
            }
            if (h.fails == 0) {
                return;
            }
            if (h.openTo < 0) {
                h.counted = failed ? h.counted + 1 : 0;
                if (h.counted == h.fails) {
                    h.counted = 0;
                    h.openTo = now + h.wait;
                }
            } else if (h.tried == c) {
                h.tried = null;
                h.openTo = failed ? now + h.wait : -1;
            }
        }

        List<Thing> waiting(int h) {
            List<Thing> out = new ArrayList<>();
            for (Thing x : asked) {
                if (x.state.equals("waits") && types[x.type][0] == h) {
                    out.add(x);
                }
            }
            return out;
        }

        void make(int number) {
            Helper h = helpers[number];
            if (h.openTo > now) {
                for (Thing x : waiting(number)) {
                    toNull(x, 4);
                }
                return;
            }
            int most = h.openTo < 0 ? h.rate : h.tried == null ? 1 : 0;
            while (most > 0 && !waiting(number).isEmpty()) {
                Call c = new Call();
                c.helper = number;
                c.type = waiting(number).get(0).type;
                c.tick = now;
                for (Thing x : waiting(number)) {
                    if (x.type == c.type && c.keys.size() < h.batch) {
                        c.keys.add(x.key);
                        x.state = "called";
                    }
                }
                calls.add(c);
                if (h.openTo >= 0) {
                    h.tried = c;
                }
                most--;
            }
        }

        /** Null tells itself as a list that begins with 0. */
        List<Integer> told(Node node, Thing x) {
            if (!x.state.equals("known")) {
                nullSeen = true;
                return List.of(0, x.reason);
            }
            List<Integer> out = new ArrayList<>(List.of(1));
            boolean lacking = false;
            for (int i = 0; i < node.fields.size(); i++) {
                int f = node.fields.get(i);
                int[] field = fields[x.type][f];
                boolean isNull = false;
                List<Thing> links = behind(x, f);
                if (field[0] == 0) {
                    out.add(x.numbers[f]);
                } else if (field[0] == 1 && links.isEmpty()) {
                    nullSeen = true;
                    isNull = true;
                    out.addAll(List.of(0, 2));
                } else {
                    if (field[0] == 2) {
                        out.add(links.size());
                    }
                    for (Thing y : links) {
                        List<Integer> one = told(node.behind.get(i), y);
                        isNull |= one.get(0) == 0;
                        out.addAll(one);
                    }
                }
                lacking |= isNull && field[3] == 1;
            }
            return lacking ? List.of(0, 6) : out;
        }

        int answer(int i) {
            return in(i, 0, answer.size() - 1) ? answer.get(i) : -1;
        }

        int call(int k, int what) {
            if (!in(k, 0, calls.size() - 1)) {
                return -1;
            }
            Call c = calls.get(k);
            if (in(what, 0, 4)) {
                return new int[] {c.helper, c.type, c.tick, c.keys.size(), c.fate}[what];
            }
            return what >= 10 && what - 10 < c.keys.size() ? c.keys.get(what - 10) : -1;
        }

        int breaker(int h, int what) {
            if (!in(h, 0, 4) || !in(what, 0, 2)) {
                return -1;
            }
            Helper x = helpers[h];
            int state = x.openTo < 0 ? 0 : now < x.openTo ? 1 : 2;
            return new int[] {state, x.counted, x.openTo}[what];
        }

        int kept(int t, int key) {
            Thing x = find(t, key);
            return x == null || x.keptTo <= now ? -1 : x.keptTo;
        }

        int count(int what) {
            if (in(what, 10, 13)) {
                return askers[what - 10][3];
            }
            int[] all = {now, tape.length(), calls.size(), answer.size(), asked.size(), nulls, spells.size()};
            return in(what, 0, 6) ? all[what] : -1;
        }
    }

    private final Random random;
    private final AnswerDoor door = new AnswerDoor();
    private final Model model = new Model();
    private final StringBuilder story = new StringBuilder();
    private final int run;
    private final int keysUsed;
    private int calls = 0;
    private boolean wrong = false;
    private static final Map<String, Integer> seen = new HashMap<>();

    private ModelRuns(int run) {
        this.run = run;
        random = new Random(run);
        keysUsed = random.nextInt(3) == 0 ? 32 : 2 + random.nextInt(8);
    }

    private void due(String call, int got, int want) {
        calls++;
        story.append(call).append(" = ").append(got).append('\n');
        if (got != want && !wrong) {
            wrong = true;
            System.out.println("run " + run + ":\n" + story + "due is " + want);
        }
    }

    /** Mostly in range, now and then just beyond it or far away. */
    private int any(int low, int high) {
        switch (random.nextInt(120)) {
            case 0:
                return low - 1;
            case 1:
                return high + 1;
            case 2:
                return random.nextInt();
            case 3:
                return random.nextBoolean() ? Integer.MAX_VALUE : Integer.MIN_VALUE;
            default:
                return low + random.nextInt(high - low + 1);
        }
    }

    private int anyKey() {
        return random.nextInt(200) == 0 ? any(0, 31) : random.nextInt(keysUsed);
    }

    private static int bit(boolean b) {
        return b ? 1 : 0;
    }

    private void setUp() {
        for (int h = 0; h < 5; h++) {
            if (random.nextBoolean()) {
                tellHelper(h);
            }
        }
        for (int t = 0; t < 6; t++) {
            tellType(t);
            for (int f = 0; f < 4; f++) {
                tellField(t, f);
            }
        }
        for (int a = 0; a < 4; a++) {
            if (random.nextBoolean()) {
                tellAsker(a);
            }
        }
        for (int t = 0; t < 6; t++) {
            for (int k = 0; k < Math.min(keysUsed, 5); k++) {
                tellThing(t, k, random.nextInt(8) != 0);
                tellRow(t, k, random.nextInt(4));
                tellKey(t, k, random.nextInt(4));
            }
        }
    }

    private void tellHelper(int h) {
        int[] v = {any(1, 9), any(1, 8), any(1, 8), any(0, 9), any(1, 99)};
        if (random.nextBoolean()) {
            v = new int[] {any(1, 4), any(1, 3), any(1, 2), any(1, 2), any(1, 6)};
        }
        due("helper(" + h + "," + v[0] + "," + v[1] + "," + v[2] + "," + v[3] + "," + v[4] + ")",
            bit(door.helper(h, v[0], v[1], v[2], v[3], v[4])), bit(model.helper(h, v[0], v[1], v[2], v[3], v[4])));
    }

    private void tellDown() {
        int h = any(0, 4);
        int from = model.now + random.nextInt(20) - random.nextInt(3);
        int to = from + random.nextInt(20) - random.nextInt(2);
        if (random.nextInt(40) == 0) {
            to = any(0, 100000);
        }
        due("down(" + h + "," + from + "," + to + ")", door.down(h, from, to), model.down(h, from, to));
    }

    private void tellType(int t) {
        int h = any(0, random.nextBoolean() ? 1 : 4);
        int price = random.nextInt(4) == 0 ? any(1, 9) : any(1, 2);
        int life = random.nextInt(3) == 0 ? any(0, 999) : any(0, 12);
        due("type(" + t + "," + h + "," + price + "," + life + ")", bit(door.type(t, h, price, life)),
            bit(model.type(t, h, price, life)));
    }

    private void tellField(int t, int f) {
        int kind = any(0, 2);
        int of = any(0, 5);
        int most = any(1, 5);
        boolean must = random.nextInt(6) == 0;
        due("field(" + t + "," + f + "," + kind + "," + of + "," + most + "," + must + ")",
            bit(door.field(t, f, kind, of, most, must)), bit(model.field(t, f, kind, of, most, must)));
    }

    private void tellThing(int t, int k, boolean is) {
        due("thing(" + t + "," + k + "," + is + ")", bit(door.thing(t, k, is)), bit(model.thing(t, k, is)));
    }

    private void tellNumber(int t, int k, int f) {
        int v = any(-99999, 99999);
        due("number(" + t + "," + k + "," + f + "," + v + ")", bit(door.number(t, k, f, v)),
            bit(model.number(t, k, f, v)));
    }

    private void tellKey(int t, int k, int f) {
        int to = random.nextInt(6) == 0 ? any(-1, 31) : anyKey();
        due("key(" + t + "," + k + "," + f + "," + to + ")", bit(door.key(t, k, f, to)), bit(model.key(t, k, f, to)));
    }

    private void tellRow(int t, int k, int f) {
        int n = any(0, 5);
        int keys = random.nextInt();
        if (random.nextInt(4) != 0) {
            keys = 0;
            for (int i = 0; i < 5; i++) {
                keys |= (anyKey() & 31) << (5 * i);
            }
        }
        due("row(" + t + "," + k + "," + f + "," + n + "," + keys + ")", bit(door.row(t, k, f, n, keys)),
            bit(model.row(t, k, f, n, keys)));
    }

    private void tellAsker(int a) {
        int rights = random.nextInt(3) == 0 ? any(0, 63) : 63;
        int full = random.nextInt(4) == 0 ? any(1, 500) : 500;
        int fill = any(0, 50);
        due("asker(" + a + "," + rights + "," + full + "," + fill + ")", bit(door.asker(a, rights, full, fill)),
            bit(model.asker(a, rights, full, fill)));
    }

    private void tellPass() {
        int ticks = random.nextInt(10) == 0 ? any(1, 1000) : any(1, 12);
        due("pass(" + ticks + ")", door.pass(ticks), model.pass(ticks));
    }

    private int nodesLeft;

    private void writeNode(StringBuilder out, int type, int depth, int widest) {
        // A TYPE of which all FIELDS lead on has no leaves: such a text ends where it is full.
        if (out.length() > 200) {
            return;
        }
        nodesLeft--;
        out.append('{');
        int width = 1 + random.nextInt(widest);
        for (int i = 0; i < width; i++) {
            int f = random.nextInt(4);
            int[] field = model.fields[type][f];
            boolean canGo = nodesLeft > 0 && depth < 5;
            for (int tries = 0; field[0] > 0 && !canGo && tries < 8; tries++) {
                f = random.nextInt(4);
                field = model.fields[type][f];
            }
            if (random.nextInt(8) == 0) {
                out.append(' ');
            }
            out.append((char) ('0' + f));
            if (field[0] > 0) {
                writeNode(out, field[1], depth + 1, depth > 6 ? 1 : widest);
            }
            if (out.length() > 190) {
                break;
            }
        }
        out.append('}');
    }

    private String anyText(int type) {
        StringBuilder out = new StringBuilder();
        nodesLeft = 1 + random.nextInt(random.nextInt(5) == 0 ? 22 : 9);
        writeNode(out, type, 1, random.nextInt(6) == 0 ? 7 : 3);
        for (int i = random.nextInt(12); i == 0 && out.length() > 0; i++) {
            int place = random.nextInt(out.length() + 1);
            String bytes = "{}01234 \u0000\u00ff";
            char b = bytes.charAt(random.nextInt(bytes.length()));
            if (random.nextBoolean() || place == out.length()) {
                out.insert(place, b);
            } else {
                out.setCharAt(place, b);
            }
        }
        if (out.length() > 200) {
            out.setLength(200);
        }
        return out.toString();
    }

    private void feed(String text) {
        int have = model.tape.length();
        for (int i = 0; i < text.length(); i += 20) {
            int[] w = new int[5];
            for (int j = 0; j < 20; j++) {
                int b = i + j < text.length() ? text.charAt(i + j) & 255 : random.nextInt(256);
                w[j / 4] |= b << (24 - 8 * (j % 4));
            }
            due("feed(" + w[0] + "," + w[1] + "," + w[2] + "," + w[3] + "," + w[4] + ")",
                door.feed(w[0], w[1], w[2], w[3], w[4]), model.feed(w));
        }
        int n = have + text.length();
        due("end(" + n + ")", door.end(n), model.end(n));
    }

    private void ask() {
        int type = any(0, 5);
        String text = anyText(Model.in(type, 0, 5) ? type : 0);
        feed(text);
        if (random.nextInt(4) == 0) {
            due("cost(" + type + ")", door.cost(type), model.cost(type));
        }
        int a = any(0, 3);
        int key = anyKey();
        int ticks = random.nextInt(3) == 0 ? any(1, 200) : any(1, 12);
        int want = model.ask(a, type, key, ticks);
        due("ask(" + a + "," + type + "," + key + "," + ticks + ") of " + text, door.ask(a, type, key, ticks), want);
        seen.merge(want < -2 ? "FAULT " + ((-3 - want) % 4) : "ask " + want, 1, Integer::sum);
        if (want == 0 || want == 1) {
            countSeen();
            lookAround(10);
        }
    }

    /** Looks are calls, too: some behind each answer, and at the end as many as are left. */
    private void lookAround(int times) {
        for (int i = 0; i < times && calls < CALLS; i++) {
            lookOnce();
        }
    }

    private void lookOnce() {
        switch (random.nextInt(12)) {
            case 0:
                due("dear()", door.dear(), model.dear);
                break;
            case 1:
            case 2:
                int t = any(0, 5);
                int key = anyKey();
                due("kept(" + t + "," + key + ")", door.kept(t, key), model.kept(t, key));
                break;
            case 3:
            case 4:
                int h = any(0, 4);
                int state = any(0, 2);
                due("breaker(" + h + "," + state + ")", door.breaker(h, state), model.breaker(h, state));
                break;
            case 5:
            case 6:
                int what = any(0, 13);
                due("count(" + what + ")", door.count(what), model.count(what));
                break;
            case 7:
            case 8:
            case 9:
                int k = any(0, model.calls.size());
                int of = random.nextBoolean() ? any(0, 4) : any(0, 18);
                due("call(" + k + "," + of + ")", door.call(k, of), model.call(k, of));
                break;
            default:
                int place = any(0, model.answer.size());
                due("answer(" + place + ")", door.answer(place), model.answer(place));
                break;
        }
    }

    /** What the runs come by, so that it can be seen that they come by everything. */
    private void countSeen() {
        for (int h = 0; h < 5; h++) {
            seen.merge("breaker " + model.breaker(h, 0), 1, Integer::sum);
        }
        for (Call c : model.calls) {
            seen.merge("call " + c.fate, 1, Integer::sum);
        }
        for (Thing[] row : model.things) {
            for (Thing x : row) {
                if ("null".equals(x.state)) {
                    seen.merge("reason " + x.reason, 1, Integer::sum);
                }
            }
        }
    }

    private void step() {
        int t = any(0, 5);
        int k = anyKey();
        int f = any(0, 3);
        switch (random.nextInt(24)) {
            case 0:
                tellHelper(any(0, 4));
                break;
            case 1:
            case 2:
                tellDown();
                break;
            case 3:
                tellType(t);
                break;
            case 4:
                tellField(t, f);
                break;
            case 5:
                tellThing(t, k, random.nextInt(5) != 0);
                break;
            case 6:
                tellNumber(t, k, f);
                break;
            case 7:
                tellKey(t, k, f);
                break;
            case 8:
                tellRow(t, k, f);
                break;
            case 9:
                tellAsker(any(0, 3));
                break;
            case 10:
            case 11:
                tellPass();
                break;
            case 12:
                int n = any(0, 200);
                due("end(" + n + ")", door.end(n), model.end(n));
                break;
            default:
                ask();
                break;
        }
    }

    private boolean play() {
        try {
            setUp();
            while (calls < CALLS_AHEAD_OF_LOOKS && !wrong) {
                step();
            }
            lookAround(CALLS);
        } catch (RuntimeException e) {
            wrong = true;
            System.out.println("run " + run + " threw:\n" + story);
            e.printStackTrace(System.out);
        }
        return !wrong;
    }

    public static void main(String[] args) {
        int runs = args.length > 0 ? Integer.parseInt(args[0]) : RUNS;
        int bad = 0;
        for (int run = 1; run <= runs && bad < 3; run++) {
            if (!new ModelRuns(run).play()) {
                bad++;
            }
        }
        List<String> names = new ArrayList<>(seen.keySet());
        Collections.sort(names);
        for (String name : names) {
            System.out.print(name + ": " + seen.get(name) + "; ");
        }
        System.out.println();
        System.out.println(bad == 0 ? runs + " runs as the model tells them" : "runs are not as the model tells them");
        if (bad != 0) {
            System.exit(1);
        }
    }
}
