import java.util.Arrays;

/** What the tests have in common: saying what is due, telling a text, and reading an answer. */
abstract class Checks {
    private static String about = "";
    private static int tests = 0;
    private static int checks = 0;
    private static int wrong = 0;

    /** One test, named by the sentence of the document that it is about. */
    static void test(String sentence, Runnable body) {
        about = sentence;
        tests++;
        try {
            body.run();
        } catch (RuntimeException e) {
            wrong++;
            System.out.println("[" + about + "] threw " + e);
            e.printStackTrace(System.out);
        }
        about = "";
    }

    static void due(String what, long got, long want) {
        checks++;
        if (got != want) {
            isWrong(what, got, want);
        }
    }

    static void yes(String what, boolean got) {
        due(what, got ? 1 : 0, 1);
    }

    static void no(String what, boolean got) {
        due(what, got ? 1 : 0, 0);
    }

    static void same(String what, Object got, Object want) {
        checks++;
        if (!got.equals(want)) {
            isWrong(what, got, want);
        }
    }

    /** Texts of ASKS may hold any byte; what is printed holds only those that show. */
    private static void isWrong(String what, Object got, Object want) {
        wrong++;
        String shown = what.replaceAll("[^ -~]", "?");
        System.out.println("[" + about + "] " + shown + " answered " + got + ", due is " + want);
    }

    /** The text comes behind the TAPE. */
    static void tell(AnswerDoor x, String text) {
        int have = x.count(1);
        for (int i = 0; i < text.length(); i += 20) {
            int[] w = new int[5];
            for (int j = 0; j < 20; j++) {
                int b = i + j < text.length() ? text.charAt(i + j) : 0;
                w[j / 4] |= b << (24 - 8 * (j % 4));
            }
            x.feed(w[0], w[1], w[2], w[3], w[4]);
        }
        due("end", x.end(have + text.length()), have + text.length());
    }

    static int ask(AnswerDoor x, String text, int asker, int type, int key, int ticks) {
        tell(x, text);
        return x.ask(asker, type, key, ticks);
    }

    static int cost(AnswerDoor x, String text, int type) {
        x.end(0);
        tell(x, text);
        int got = x.cost(type);
        due("the TAPE stays", x.count(1), text.length());
        x.end(0);
        return got;
    }

    /** All numbers of the latest answer, and none around them. */
    static void answer(String what, AnswerDoor x, int... want) {
        int[] got = new int[Math.max(0, x.count(3))];
        for (int i = 0; i < got.length; i++) {
            got[i] = x.answer(i);
        }
        same(what + ": answer", Arrays.toString(got), Arrays.toString(want));
        due(what + ": behind the answer", x.answer(want.length), -1);
        due(what + ": ahead of the answer", x.answer(-1), -1);
    }

    /** A call as HELPER, TYPE, TICK, fate, then its KEYS. */
    static void call(String what, AnswerDoor x, int k, int... want) {
        due(what + ": HELPER", x.call(k, 0), want[0]);
        due(what + ": TYPE", x.call(k, 1), want[1]);
        due(what + ": TICK", x.call(k, 2), want[2]);
        due(what + ": fate", x.call(k, 4), want[3]);
        due(what + ": KEYS", x.call(k, 3), want.length - 4);
        for (int i = 4; i < want.length; i++) {
            due(what + ": KEY " + (i - 4), x.call(k, 6 + i), want[i]);
        }
        due(what + ": behind its KEYS", x.call(k, 6 + want.length), -1);
    }

    static void breakerIs(String what, AnswerDoor x, int h, int state, int counted, int to) {
        due(what + ": its state", x.breaker(h, 0), state);
        due(what + ": counted", x.breaker(h, 1), counted);
        due(what + ": open to", x.breaker(h, 2), to);
    }

    /** A row's KEYS as row() takes them. */
    static int keys(int... each) {
        int all = 0;
        for (int i = 0; i < each.length; i++) {
            all |= each[i] << (5 * i);
        }
        return all;
    }

    /** A row of five KEYS, one behind the other; behind 31 comes 0. */
    static int fiveFrom(int first) {
        int[] row = new int[5];
        for (int i = 0; i < 5; i++) {
            row[i] = first + i & 31;
        }
        return keys(row);
    }

    /** Says how it went, and ends with exit code 1 if something was wrong. */
    static void report() {
        System.out.println(tests + " tests, " + checks + " answers looked at, " + wrong + " wrong");
        if (wrong != 0 || checks == 0) {
            System.exit(1);
        }
    }
}
