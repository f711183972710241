import java.util.ArrayList;
import java.util.List;

/**
 * 'false, and nothing happens' and 'NONE, and nothing happens': of two doors that were told the same, one has the
 * refused call, too, and both answer all that follows alike. That the look at what follows is sharp enough is
 * tested as well: of two doors with calls that were taken, and that differ in one number, it tells which is which.
 */
public final class RefusedCalls extends Checks {
    private static final int MANY_CALLS = 512;

    /** One of the door's methods; a boolean answer counts 1 or 0. */
    private interface Method {
        int call(AnswerDoor x, int[] args);
    }

    private static int bit(boolean answer) {
        return answer ? 1 : 0;
    }

    private static int helper(AnswerDoor x, int[] a) {
        return bit(x.helper(a[0], a[1], a[2], a[3], a[4], a[5]));
    }

    private static int down(AnswerDoor x, int[] a) {
        return x.down(a[0], a[1], a[2]);
    }

    private static int type(AnswerDoor x, int[] a) {
        return bit(x.type(a[0], a[1], a[2], a[3]));
    }

    private static int field(AnswerDoor x, int[] a) {
        return bit(x.field(a[0], a[1], a[2], a[3], a[4], a[5] == 1));
    }

    private static int thing(AnswerDoor x, int[] a) {
        return bit(x.thing(a[0], a[1], a[2] == 1));
    }

    private static int number(AnswerDoor x, int[] a) {
        return bit(x.number(a[0], a[1], a[2], a[3]));
    }

    private static int key(AnswerDoor x, int[] a) {
        return bit(x.key(a[0], a[1], a[2], a[3]));
    }

    private static int row(AnswerDoor x, int[] a) {
        return bit(x.row(a[0], a[1], a[2], a[3], a[4]));
    }

    private static int asker(AnswerDoor x, int[] a) {
        return bit(x.asker(a[0], a[1], a[2], a[3]));
    }

    private static int pass(AnswerDoor x, int[] a) {
        return x.pass(a[0]);
    }

    private static int end(AnswerDoor x, int[] a) {
        return x.end(a[0]);
    }

    private static int ask(AnswerDoor x, int[] a) {
        return x.ask(a[0], a[1], a[2], a[3]);
    }

    private static int cost(AnswerDoor x, int[] a) {
        return x.cost(a[0]);
    }

    // ---- a door of which all that can be told shows in what follows

    private static final int[][] HELPERS = {{0, 1, 3, 2, 0, 5}, {1, 2, 2, 1, 2, 4}, {2, 3, 8, 1, 1, 50}};
    private static final int[][] TYPES = {{0, 0, 1, 0}, {1, 1, 2, 9}, {2, 2, 1, 0}};
    private static final int[][] FIELDS = {{0, 1, 2, 1, 4, 0}, {0, 2, 1, 1, 5, 0}, {0, 3, 1, 2, 5, 0}, {1, 1, 1, 0, 5, 0}};

    private static AnswerDoor door() {
        AnswerDoor x = new AnswerDoor();
        for (int[] h : HELPERS) {
            helper(x, h);
        }
        for (int[] t : TYPES) {
            type(x, t);
        }
        for (int[] f : FIELDS) {
            field(x, f);
        }
        for (int key = 0; key < 6; key++) {
            x.thing(1, key, true);
            x.number(1, key, 0, 10 + key);
            x.key(1, key, 1, key + 1);
        }
        x.thing(0, 0, true);
        x.row(0, 0, 1, 5, keys(0, 1, 2, 3, 4));
        x.key(0, 0, 2, 5);
        x.asker(1, 63, 200, 3);
        x.down(1, 0, 0);
        x.down(2, 0, 0);
        x.down(1, 100, 120);
        latest(x);
        tell(x, "{0 1{0}2{0 1{0}}}  }0000");
        return x;
    }

    /** A BREAKER that has counted, one that is open, THINGS KEPT, a DEAR, an answer, and a TAPE. */
    private static void latest(AnswerDoor x) {
        ask(x, "{0}", 1, 1, 0, 9);
        x.helper(2, 3, 8, 1, 1, 50);
        x.down(2, 2, 2);
        ask(x, "{0}", 1, 2, 0, 9);
        x.asker(3, 63, 2, 0);
        ask(x, "{0 2{0}}", 3, 0, 0, 9);
        ask(x, "{1{0}3{0}}", 1, 0, 0, 40);
        x.down(1, x.count(0), x.count(0));
        ask(x, "{0}", 1, 1, 31, 9);
        ask(x, "{1{0}3{0}}", 1, 0, 0, 40);
        breakerIs("it has counted", x, 1, 0, 1, -1);
        due("one is open", x.breaker(2, 0), 1);
        due("KEPT", bit(x.kept(1, 3) > 0), 1);
        due("DEAR", x.dear(), 4);
        due("an answer", x.count(3), 12);
    }

    // ---- all that follows

    private static final class Look {
        final AnswerDoor door;
        final List<Integer> seen = new ArrayList<>();
        int calls = 0;

        Look(AnswerDoor door) {
            this.door = door;
        }

        int saw(int answer) {
            calls++;
            seen.add(answer);
            return answer;
        }

        void counts() {
            for (int what = 0; what <= 6; what++) {
                saw(door.count(what));
            }
            for (int a = 0; a < 4; a++) {
                saw(door.count(10 + a));
            }
            saw(door.dear());
            for (int h = 0; h < 3; h++) {
                for (int what = 0; what < 3; what++) {
                    saw(door.breaker(h, what));
                }
            }
            for (int key = 0; key < 6; key++) {
                saw(door.kept(1, key));
            }
        }

        void latest() {
            int numbers = saw(door.count(3));
            for (int i = 0; i < numbers; i++) {
                saw(door.answer(i));
            }
            int calls = saw(door.count(2));
            for (int k = 0; k < calls; k++) {
                saw(door.call(k, 1));
                saw(door.call(k, 2));
                saw(door.call(k, 4));
                int keys = saw(door.call(k, 3));
                for (int i = 0; i < keys; i++) {
                    saw(door.call(k, 10 + i));
                }
            }
        }

        void ask(String text, int asker, int type, int key, int ticks) {
            int before = door.count(1);
            tell(door, text);
            calls += 3 + (text.length() + 19) / 20;
            seen.add(before);
            saw(door.ask(asker, type, key, ticks));
            latest();
            saw(door.count(0));
            saw(door.breaker(1, 2));
            saw(door.count(11));
        }

        void all() {
            counts();
            latest();
            saw(door.cost(0));
            saw(door.end(Math.min(19, saw(door.count(1)))));
            ask("", 1, 0, 0, 50);
            saw(door.pass(Math.max(1, 100 - saw(door.count(0)))));
            ask("{1{0}}", 1, 0, 0, 40);
            ask("{03{0}2{0}}", 1, 0, 0, 40);
            saw(door.pass(3));
            ask("{2{01{0}}}", 0, 0, 0, 40);
            counts();
            due("calls of one door", calls < MANY_CALLS - 80 ? 1 : 0, 1);
        }
    }

    private static List<Integer> whatFollows(AnswerDoor x) {
        Look look = new Look(x);
        look.all();
        return look.seen;
    }

    private static String text(String name, int[] args) {
        StringBuilder out = new StringBuilder(name).append('(');
        for (int i = 0; i < args.length; i++) {
            out.append(i == 0 ? "" : ", ").append(args[i]);
        }
        return out.append(')').toString();
    }

    private static int[] with(int[] args, int place, int value) {
        int[] out = args.clone();
        out[place] = value;
        return out;
    }

    private static void refused(String name, Method method, int answer, int[] args) {
        AnswerDoor with = door();
        due(text(name, args), method.call(with, args), answer);
        same("behind " + text(name, args), whatFollows(with), whatFollows(door()));
    }

    /** Each number of a call, one at a time: just outside of its range, and far outside. */
    private static void ranges(String name, Method method, int answer, int[] args, int[][] ranges) {
        AnswerDoor taken = door();
        due(text(name, args) + " is refused", bit(method.call(taken, args) == answer), 0);
        for (int i = 0; i < ranges.length; i++) {
            int low = ranges[i][0];
            int high = ranges[i][1];
            for (int bad : new int[] {low - 1, high + 1, Integer.MIN_VALUE, Integer.MAX_VALUE}) {
                refused(name, method, answer, with(args, i, bad));
            }
            for (int good : new int[] {low, high}) {
                int got = method.call(door(), with(args, i, good));
                due(text(name, with(args, i, good)) + " is refused", bit(got == answer), 0);
            }
        }
    }

    /** The look is sharp: a number of a call told otherwise shows in what follows. */
    private static void shows(String name, Method method, int[] args, int... others) {
        AnswerDoor one = door();
        method.call(one, args);
        List<Integer> want = whatFollows(one);
        for (int i = 0; i < others.length; i++) {
            AnswerDoor other = door();
            int[] changed = with(args, i, others[i]);
            method.call(other, changed);
            due(text(name, changed) + " shows", bit(!whatFollows(other).equals(want)), 1);
        }
    }

    private static void helperRefused() {
        int[] args = {1, 3, 5, 7, 1, 9};
        int[][] ranges = {{0, 4}, {1, 9}, {1, 8}, {1, 8}, {0, 9}, {1, 99}};
        ranges("helper", RefusedCalls::helper, 0, args, ranges);
        shows("helper", RefusedCalls::helper, HELPERS[1], 3, 1, 1, 2, 1, 5);
    }

    private static void downRefused() {
        int[] args = {1, 50, 60};
        ranges("down", RefusedCalls::down, -1, args, new int[][] {{0, 4}, {0, 60}, {50, 100000}});
        shows("down", RefusedCalls::down, new int[] {0, 100, 101}, 1, 101, 100);
    }

    private static void downFull() {
        AnswerDoor with = door();
        AnswerDoor without = door();
        for (int s = with.count(6); s < 20; s++) {
            with.down(4, s, s);
            without.down(4, s, s);
        }
        due("20", with.count(6), 20);
        due("the 21st", with.down(1, 0, 100000), -1);
        same("behind the 21st", whatFollows(with), whatFollows(without));
    }

    private static void typeRefused() {
        int[][] ranges = {{0, 5}, {0, 4}, {1, 9}, {0, 999}};
        ranges("type", RefusedCalls::type, 0, new int[] {1, 0, 3, 5}, ranges);
        shows("type", RefusedCalls::type, TYPES[1], 2, 0, 3, 200);
    }

    private static void fieldRefused() {
        int[][] ranges = {{0, 5}, {0, 3}, {0, 2}, {0, 5}, {1, 5}};
        for (int kind = 0; kind <= 2; kind++) {
            ranges("field", RefusedCalls::field, 0, new int[] {0, 1, kind, 2, 3, 1}, ranges);
        }
        shows("field", RefusedCalls::field, FIELDS[0], 1, 3, 0, 2, 3, 1);
    }

    private static void thingRefused() {
        ranges("thing", RefusedCalls::thing, 0, new int[] {4, 5, 1}, new int[][] {{0, 5}, {0, 31}});
        refused("thing", RefusedCalls::thing, 0, new int[] {1, 0, 1});
        refused("thing", RefusedCalls::thing, 0, new int[] {2, 0, 0});
        for (int key : new int[] {-1, 32}) {
            refused("thing", RefusedCalls::thing, 0, new int[] {1, key, 1});
            refused("thing", RefusedCalls::thing, 0, new int[] {1, key, 0});
        }
        shows("thing", RefusedCalls::thing, new int[] {1, 3, 0}, 2, 4, 1);
    }

    private static void numberRefused() {
        int[][] ranges = {{0, 5}, {0, 31}, {0, 3}, {-99999, 99999}};
        ranges("number", RefusedCalls::number, 0, new int[] {1, 0, 0, 7}, ranges);
        shows("number", RefusedCalls::number, new int[] {1, 3, 0, 7}, 0, 4, 1, 8);
    }

    private static void keyRefused() {
        ranges("key", RefusedCalls::key, 0, new int[] {1, 0, 1, 7}, new int[][] {{0, 5}, {0, 31}, {0, 3}, {-1, 31}});
        shows("key", RefusedCalls::key, new int[] {0, 0, 2, 3}, 1, 1, 1, 4);
    }

    private static void rowRefused() {
        int[][] ranges = {{0, 5}, {0, 31}, {0, 3}, {0, 5}};
        ranges("row", RefusedCalls::row, 0, new int[] {0, 0, 1, 2, keys(7, 8)}, ranges);
        shows("row", RefusedCalls::row, new int[] {0, 0, 1, 2, keys(3, 4)}, 1, 1, 2, 1, keys(4, 3));
    }

    private static void askerRefused() {
        int[][] ranges = {{0, 3}, {0, 63}, {1, 500}, {0, 50}};
        ranges("asker", RefusedCalls::asker, 0, new int[] {1, 5, 50, 5}, ranges);
        shows("asker", RefusedCalls::asker, new int[] {1, 63, 60, 3}, 2, 61, 55, 2);
    }

    private static void passRefused() {
        ranges("pass", RefusedCalls::pass, -1, new int[] {5}, new int[][] {{1, 1000}});
        shows("pass", RefusedCalls::pass, new int[] {5}, 6);
    }

    private static AnswerDoor atTheEnd() {
        AnswerDoor x = door();
        for (int i = 0; i < 99; i++) {
            x.pass(1000);
        }
        x.pass(99990 - x.count(0));
        return x;
    }

    private static void beyondTheLastTick() {
        List<Integer> want = whatFollows(atTheEnd());
        AnswerDoor x = atTheEnd();
        due("pass(11)", x.pass(11), -1);
        same("behind pass(11)", whatFollows(x), want);
        x = atTheEnd();
        due("ask for 11", x.ask(1, 0, 0, 11), -1);
        same("behind ask for 11", whatFollows(x), want);
    }

    private static void feedRefused() {
        AnswerDoor with = door();
        AnswerDoor without = door();
        while (with.count(1) <= 180) {
            with.feed(-1, -1, -1, -1, -1);
            without.feed(-1, -1, -1, -1, -1);
        }
        due("it is full", with.feed(0x7B7B7B7B, 0, 0, 0, 0), -1);
        same("behind feed", whatFollows(with), whatFollows(without));
    }

    private static void endRefused() {
        ranges("end", RefusedCalls::end, -1, new int[] {5}, new int[][] {{0, 24}});
        shows("end", RefusedCalls::end, new int[] {5}, 6);
    }

    private static void askRefused() {
        int[][] ranges = {{0, 3}, {0, 5}, {0, 31}, {1, 200}};
        ranges("ask", RefusedCalls::ask, -1, new int[] {1, 0, 0, 50}, ranges);
    }

    /** Behind a FAULT all is as if the TAPE had been made empty. */
    private static void faultOfAnAsk() {
        for (String bad : new String[] {"", "{", "{4}", "{000000 0}", "{2{1{2{1{2{1{0}}}}}}}"}) {
            AnswerDoor with = door();
            with.end(0);
            tell(with, bad);
            due("a FAULT", bit(with.ask(1, 0, 0, 50) < -2), 1);
            AnswerDoor without = door();
            without.end(0);
            same("behind a FAULT of " + bad, whatFollows(with), whatFollows(without));
        }
    }

    /** Behind one too dear all is as if the TAPE had been made empty, but for DEAR, which all() looks at twice. */
    private static void tooDear() {
        AnswerDoor with = door();
        with.end(0);
        due("too dear", ask(with, "{1{0}}", 3, 0, 0, 50), 2);
        due("DEAR", with.dear(), 2);
        AnswerDoor without = door();
        without.end(0);
        due("DEAR of old", without.dear(), 4);
        List<Integer> got = whatFollows(with);
        List<Integer> want = whatFollows(without);
        due("as many answers", got.size(), want.size());
        int differ = 0;
        for (int i = 0; i < Math.min(got.size(), want.size()); i++) {
            differ += got.get(i).equals(want.get(i)) ? 0 : 1;
        }
        due("DEAR alone", differ, 2);
    }

    private static void costRefused() {
        ranges("cost", RefusedCalls::cost, -1, new int[] {0}, new int[][] {{0, 5}});
        for (int type = 0; type < 6; type++) {
            AnswerDoor with = door();
            with.cost(type);
            same("behind cost(" + type + ")", whatFollows(with), whatFollows(door()));
        }
    }

    /** Those that only tell change nothing, whatever they are asked. */
    private static void lookingChangesNothing() {
        int[] all = {Integer.MIN_VALUE, -2, -1, 0, 1, 2, 3, 4, 5, 6, 9, 10, 13, 14, 31, 32, Integer.MAX_VALUE};
        for (int a : all) {
            AnswerDoor x = door();
            x.dear();
            x.answer(a);
            x.count(a);
            for (int b : all) {
                x.call(a, b);
                x.breaker(a, b);
                x.kept(a, b);
            }
            same("behind looks at " + a, whatFollows(x), whatFollows(door()));
        }
    }

    public static void main(String[] args) {
        test("Promise 2: false, and nothing happens, for others.", RefusedCalls::helperRefused);
        test("Promise 3: NONE: 20, or something is not as told.", RefusedCalls::downRefused);
        test("Promise 3: NONE: 20", RefusedCalls::downFull);
        test("Promise 4: false, and nothing happens, for others.", RefusedCalls::typeRefused);
        test("Promise 5: false, and nothing happens, for others (TYPE 0 to 5 and MOST 1 to 5 of any KIND).",
            RefusedCalls::fieldRefused);
        test("Promise 6: whether it does. False without it.", RefusedCalls::thingRefused);
        test("Promise 7: false, and nothing happens, for others.", RefusedCalls::numberRefused);
        test("Promise 8: A KEY likewise (NONE to 31).", RefusedCalls::keyRefused);
        test("Promise 9: A row of n KEYS (0 to 5) likewise", RefusedCalls::rowRefused);
        test("Promise 10: false, and nothing happens, for others.", RefusedCalls::askerRefused);
        test("Promise 11: NONE, and nothing happens, for others", RefusedCalls::passRefused);
        test("Promises 11 and 14: or beyond 100000.", RefusedCalls::beyondTheLastTick);
        test("Promise 12: NONE, and none comes, if it would have more than 200.", RefusedCalls::feedRefused);
        test("Promise 13: NONE, and nothing happens, if it has not so many, or n is below 0.", RefusedCalls::endRefused);
        test("Promise 14: NONE, and nothing happens, for others", RefusedCalls::askRefused);
        test("Promise 14: The TAPE, which is empty then; -2 - its FAULT", RefusedCalls::faultOfAnAsk);
        test("Promise 14: 2 refused as too dear; II: and nothing is paid", RefusedCalls::tooDear);
        test("Promise 15: NONE, and nothing happens, for others. The TAPE stays.", RefusedCalls::costRefused);
        test("Promises 16 to 21 only tell", RefusedCalls::lookingChangesNothing);
        report();
    }
}
