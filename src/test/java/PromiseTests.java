import java.util.Arrays;

/** The promises of the document one by one: ordinary inputs, named edges, wrong inputs. */
public final class PromiseTests extends Checks {
    private static void newObject() {
        AnswerDoor x = new AnswerDoor();
        due("1 NONE", AnswerDoor.NONE, -1);
        for (int what = 0; what <= 6; what++) {
            due("1 count(" + what + ")", x.count(what), 0);
        }
        for (int a = 0; a < 4; a++) {
            due("1 bucket", x.count(10 + a), 100);
        }
        for (int h = 0; h < 5; h++) {
            due("1 breaker 0", x.breaker(h, 0), 0);
            due("1 breaker 1", x.breaker(h, 1), 0);
            due("1 breaker 2", x.breaker(h, 2), -1);
        }
        due("1 dear", x.dear(), -1);
        due("1 answer", x.answer(0), -1);
        due("1 call", x.call(0, 0), -1);
        due("1 kept", x.kept(0, 0), -1);
        for (int t = 0; t < 6; t++) {
            due("1 price", cost(x, "{0123}", t), 1);
            due("1 no things", ask(x, "{0}", 0, t, 31, 5), 1);
            answer("1 no things", x, 0, 2);
            call("1 helper 0", x, 0, 0, t, t, 0, 31);
        }
        yes("1 thing", x.thing(2, 3, true));
        yes("1 ref", x.field(2, 1, 1, 0, 5, false));
        yes("1 list", x.field(2, 2, 2, 0, 5, false));
        due("1 at first", ask(x, "{01{0}2{0}3}", 0, 2, 3, 5), 1);
        answer("1 at first", x, 1, 0, 0, 2, 0, 0);
        due("1 life 0", x.kept(2, 3), -1);
    }

    /** 75 THINGS of three TYPES of one HELPER at once: nine calls and more, of nine KEYS and more. */
    private static void atFirst(int h) {
        AnswerDoor x = new AnswerDoor();
        for (int t = 0; t < 4; t++) {
            x.type(t, h, 1, 0);
        }
        x.field(0, 0, 2, 0, 5, false);
        x.row(0, 0, 0, 5, keys(1, 2, 3, 4, 5));
        x.thing(0, 0, true);
        for (int f = 1; f <= 3; f++) {
            x.field(0, f, 2, f, 5, false);
            for (int k = 1; k <= 5; k++) {
                x.row(0, k, f, 5, fiveFrom(5 * k));
                x.thing(0, k, true);
            }
        }
        due("1 ask", ask(x, "{0{1{0}2{0}3{0}}}", 0, 0, 0, 9), 1);
        due("1 DELAY 1", x.count(0), 4);
        due("1 calls", x.count(2), 2 + 12);
        for (int k = 2; k < 14; k++) {
            due("1 BATCH 8", x.call(k, 3), k < 11 ? 8 : 1);
            due("1 RATE 8", x.call(k, 2), k < 10 ? 2 : 3);
            due("1 first waiting", x.call(k, 1), 1 + (k - 2) % 3);
        }
        due("1 FULL 100, FILL 10", x.count(10), 100 - 81 + 40);
        x.pass(4);
        due("1 FILL 10", x.count(10), 99);
        x.pass(1);
        due("1 FULL 100", x.count(10), 100);
        x.field(1, 3, 2, 1, 5, false);
        x.field(1, 3, 2, 1, 7, false);
        due("1 MOST", cost(x, "{3{0}}", 1), 6);
    }

    private static void atFirst() {
        for (int h = 0; h < 5; h++) {
            atFirst(h);
        }
    }

    private static void fiveWithin() {
        AnswerDoor x = linked();
        for (int k = 0; k < 6; k++) {
            x.thing(0, k, true);
            x.number(0, k, 0, k);
            x.key(0, k, 3, k + 1);
        }
        due("III five within one another", ask(x, "{03{03{03{03{0}}}}}", 0, 0, 0, 9), 0);
        answer("III five within one another", x, 1, 0, 1, 1, 1, 2, 1, 3, 1, 4);
        due("III NOW", x.count(0), 15);
        x.type(0, 0, 1, 999);
        for (int times = 0; times < 2; times++) {
            due("III all kept then", ask(x, "{03{03{03{03{0}}}}}", 0, 0, 0, 9), 0);
            answer("III all kept then", x, 1, 0, 1, 1, 1, 2, 1, 3, 1, 4);
            due("III NOW", x.count(0), 20);
        }
        x.type(0, 0, 1, 0);
        due("14 one TICK", ask(x, "{03{0}}", 0, 0, 0, 1), 1);
        answer("14 one TICK", x, 1, 0, 0, 5);
        due("14 one TICK", x.count(0), 21);
        due("3 at 0 alone", x.down(4, 0, 0), 1);
        x.type(1, 0, 1, 1);
        x.thing(1, 0, true);
        due("20 LIFE 1", ask(x, "{0}", 0, 1, 0, 9), 0);
        due("20 LIFE 1", x.kept(1, 0), 23);
        x.type(1, 0, 1, 1);
        due("4 KEY 0 goes", x.kept(1, 0), -1);
    }

    /** Two ASKS that need 127 THINGS each, one KEY a call and one call a TICK. */
    private static void manyCalls() {
        AnswerDoor x = linked();
        x.field(0, 0, 2, 0, 5, false);
        x.helper(0, 1, 1, 1, 0, 1);
        for (int f = 1; f <= 3; f++) {
            x.field(0, f, 2, f, 5, false);
        }
        for (int k = 0; k < 31; k++) {
            x.thing(0, k, true);
            for (int f = k < 6 ? 0 : 1; f < (k < 6 ? 1 : 4); f++) {
                x.row(0, k, f, 5, fiveFrom(5 * k + 1));
            }
        }
        for (int times = 0; times < 2; times++) {
            int now = x.count(0);
            due("III many", ask(x, "{0{0{1{0}2{0}3{0}}}}", 0, 0, 0, 200), 1);
            due("III each once", x.count(4), 31 + 3 * 32);
            due("III calls", x.count(2), 31 + 3 * 32);
            due("III a TICK each", x.count(0), now + 31 + 3 * 32);
            due("III nulls", x.count(5), 3 * 32);
            due("III numbers", x.count(3), 2 + 5 * 2 + 25 * 4 + 375 * 2);
            x.pass(20);
        }
        boolean[] seen = new boolean[6 * 32];
        for (int k = 0; k < 31 + 3 * 32; k++) {
            seen[x.call(k, 1) * 32 + x.call(k, 10)] = true;
        }
        int keys = 0;
        for (boolean one : seen) {
            keys += one ? 1 : 0;
        }
        due("III other KEYS", keys, 31 + 3 * 32);
        due("III one KEY", x.call(126, 11), -1);
    }

    private static void helperPromise() {
        AnswerDoor x = new AnswerDoor();
        int[][] bad = {{-1, 1, 1, 1, 0, 1}, {5, 1, 1, 1, 0, 1}, {0, 0, 1, 1, 0, 1}, {0, 10, 1, 1, 0, 1},
            {0, 1, 0, 1, 0, 1}, {0, 1, 9, 1, 0, 1}, {0, 1, 1, 0, 0, 1}, {0, 1, 1, 9, 0, 1}, {0, 1, 1, 1, -1, 1},
            {0, 1, 1, 1, 10, 1}, {0, 1, 1, 1, 0, 0}, {0, 1, 1, 1, 0, 100}};
        yes("2 edges", x.helper(0, 9, 8, 8, 9, 99));
        yes("2 edges", x.helper(4, 1, 1, 1, 0, 1));
        yes("2 batch and rate", x.helper(0, 2, 2, 1, 1, 7));
        for (int[] b : bad) {
            no("2 " + Arrays.toString(b), x.helper(b[0], b[1], b[2], b[3], b[4], b[5]));
        }
        x.field(0, 0, 2, 1, 5, false);
        x.thing(0, 0, true);
        x.row(0, 0, 0, 5, keys(9, 8, 7, 8, 6));
        due("2 ask", ask(x, "{0{1}}", 0, 0, 0, 99), 1);
        call("2 root", x, 0, 0, 0, 0, 0, 0);
        call("2 first two", x, 1, 0, 1, 2, 0, 9, 8);
        call("2 next two a tick later", x, 2, 0, 1, 3, 0, 7, 6);
        due("2 calls", x.count(2), 3);
        due("2 NOW", x.count(0), 5);
        due("2 asked for", x.count(4), 5);
        x.down(0, 5, 5);
        due("2 fails", ask(x, "{1}", 0, 0, 0, 99), 1);
        due("2 open", x.breaker(0, 0), 1);
        due("2 open to", x.breaker(0, 2), 14);
        no("2 nothing happens", x.helper(0, 2, 2, 1, 1, 0));
        due("2 still open", x.breaker(0, 0), 1);
        yes("2 again", x.helper(0, 3, 1, 1, 2, 7));
        due("2 closed", x.breaker(0, 0), 0);
        x.down(0, 7, 7);
        due("2 fails once", ask(x, "{1}", 0, 0, 0, 99), 1);
        due("2 DELAY", x.count(0), 10);
        due("2 counted", x.breaker(0, 1), 1);
        yes("2 the same", x.helper(0, 3, 1, 1, 2, 7));
        due("2 count 0", x.breaker(0, 1), 0);
    }

    private static void downPromise() {
        AnswerDoor x = new AnswerDoor();
        due("3 h", x.down(-1, 0, 1), -1);
        due("3 h", x.down(5, 0, 1), -1);
        due("3 from", x.down(0, -1, 1), -1);
        due("3 to", x.down(0, 0, 100001), -1);
        due("3 order", x.down(0, 2, 1), -1);
        due("3 none yet", x.count(6), 0);
        due("3 one TICK", x.down(0, 2, 2), 1);
        due("3 edge", x.down(4, 0, 100000), 2);
        x.thing(0, 0, true);
        for (int tick = 0; tick < 4; tick++) {
            due("3 at " + tick, ask(x, "{0}", 0, 0, 0, 5), tick == 2 ? 1 : 0);
            due("3 call at " + tick, x.call(0, 4), tick == 2 ? 1 : 0);
        }
        due("3 to is with it", x.down(0, 4, 5), 3);
        for (int tick = 4; tick < 7; tick++) {
            due("3 at " + tick, ask(x, "{0}", 0, 0, 0, 5), tick < 6 ? 1 : 0);
        }
        for (int s = 4; s <= 20; s++) {
            due("3 spell", x.down(s % 5, s, s), s);
        }
        due("3 the 21st", x.down(0, 0, 0), -1);
        due("3 count", x.count(6), 20);
        x = new AnswerDoor();
        x.helper(0, 3, 8, 8, 0, 1);
        x.thing(0, 0, true);
        x.down(0, 1, 99);
        due("3 made ahead of it", ask(x, "{0}", 0, 0, 0, 5), 0);
        due("3 NOW", x.count(0), 3);
    }

    private static void typePromise() {
        AnswerDoor x = new AnswerDoor();
        int[][] bad = {{-1, 0, 1, 0}, {6, 0, 1, 0}, {1, -1, 1, 0}, {1, 5, 1, 0}, {1, 0, 0, 0}, {1, 0, 10, 0},
            {1, 0, 1, -1}, {1, 0, 1, 1000}};
        yes("4 edge", x.type(0, 0, 1, 0));
        yes("4 edge", x.type(5, 4, 9, 999));
        yes("4 told", x.type(1, 3, 7, 5));
        x.thing(1, 4, true);
        due("4 ask", ask(x, "{0}", 0, 1, 4, 5), 0);
        call("4 its helper", x, 0, 3, 1, 0, 0, 4);
        due("4 kept", x.kept(1, 4), 6);
        for (int[] b : bad) {
            no("4 " + Arrays.toString(b), x.type(b[0], b[1], b[2], b[3]));
        }
        due("4 still kept", x.kept(1, 4), 6);
        due("4 price", cost(x, "{0}", 1), 7);
        yes("4 again", x.type(0, 3, 7, 5));
        due("4 of another type", x.kept(1, 4), 6);
        yes("4 again", x.type(1, 3, 7, 5));
        due("4 kept goes", x.kept(1, 4), -1);
    }

    private static void fieldPromise() {
        AnswerDoor x = new AnswerDoor();
        int[][] bad = {{-1, 0, 1, 0, 1}, {6, 0, 1, 0, 1}, {0, -1, 1, 0, 1}, {0, 4, 1, 0, 1}, {0, 0, -1, 0, 1},
            {0, 0, 3, 0, 1}, {0, 0, 0, -1, 1}, {0, 0, 0, 6, 1}, {0, 0, 0, 0, 0}, {0, 0, 1, 0, 6}};
        for (int[] b : bad) {
            no("5 " + Arrays.toString(b), x.field(b[0], b[1], b[2], b[3], b[4], true));
        }
        due("5 nothing happened", cost(x, "{0123}", 0), 1);
        yes("5 edge", x.field(5, 3, 2, 5, 5, true));
        yes("5 ref", x.field(0, 1, 1, 2, 5, false));
        yes("5 list", x.field(0, 2, 2, 3, 2, false));
        x.type(2, 0, 4, 0);
        x.type(3, 0, 5, 0);
        due("5 cost", cost(x, "{1{0}2{0}}", 0), 1 + 4 + 2 * 5);
        x.thing(0, 0, true);
        x.key(0, 0, 1, 6);
        x.row(0, 0, 2, 5, keys(5, 4, 3, 2, 1));
        x.number(0, 0, 1, 77);
        x.number(0, 0, 2, 78);
        due("5 ask", ask(x, "{1{0}2{0}}", 0, 0, 0, 9), 1);
        answer("5 list of MOST", x, 1, 0, 2, 2, 0, 2, 0, 2);
        call("5 ref's type", x, 1, 0, 2, 1, 0, 6);
        call("5 list's type", x, 2, 0, 3, 1, 0, 5, 4);
        yes("5 a number", x.field(0, 1, 0, 2, 5, true));
        yes("5 a list as ref", x.field(0, 2, 1, 3, 2, true));
        due("5 number ask", ask(x, "{1}", 0, 0, 0, 9), 0);
        answer("5 a number is never null", x, 1, 77);
        due("5 NONE by MUST", ask(x, "{2{0}}", 0, 0, 0, 9), 1);
        answer("5 NONE by MUST", x, 0, 6);
        due("5 MUST that is not told", ask(x, "{1}", 0, 0, 0, 9), 0);
    }

    private static void thingPromises() {
        AnswerDoor x = new AnswerDoor();
        no("6 not there", x.thing(0, 0, false));
        no("6 type", x.thing(-1, 0, true));
        no("6 type", x.thing(6, 0, true));
        no("6 key", x.thing(0, -1, true));
        no("6 key", x.thing(0, 32, true));
        yes("6 there", x.thing(5, 31, true));
        no("6 again", x.thing(5, 31, true));
        x.type(5, 0, 1, 50);
        due("6 ask", ask(x, "{0123}", 0, 5, 31, 9), 0);
        answer("6 at first", x, 1, 0, 0, 0, 0);
        due("6 kept", x.kept(5, 31), 51);
        no("6 no change", x.thing(5, 31, true));
        due("6 still kept", x.kept(5, 31), 51);
        yes("6 gone", x.thing(5, 31, false));
        due("6 kept goes", x.kept(5, 31), -1);
        due("6 ask", ask(x, "{0}", 0, 5, 31, 9), 1);
        answer("6 not there", x, 0, 2);
        due("6 null is not kept", x.kept(5, 31), -1);

        yes("7 not there yet", x.number(5, 31, 3, -99999));
        yes("7 edge", x.number(5, 31, 0, 99999));
        yes("6 there again", x.thing(5, 31, true));
        due("7 ask", ask(x, "{03}", 0, 5, 31, 9), 0);
        answer("7 numbers", x, 1, 99999, -99999);
        due("7 kept", x.kept(5, 31), 53);
        no("7 v", x.number(5, 31, 0, 100000));
        no("7 v", x.number(5, 31, 0, -100000));
        no("7 f", x.number(5, 31, 4, 0));
        no("7 f", x.number(5, 31, -1, 0));
        no("7 key", x.number(5, 32, 0, 0));
        no("7 key", x.number(5, -1, 0, 0));
        no("7 type", x.number(6, 31, 0, 0));
        no("7 type", x.number(-1, 31, 0, 0));
        due("7 still kept", x.kept(5, 31), 53);
        due("7 kept ask", ask(x, "{03}", 0, 5, 31, 9), 0);
        answer("7 as it was", x, 1, 99999, -99999);
        yes("7 the same", x.number(5, 31, 0, 99999));
        due("7 kept goes", x.kept(5, 31), -1);
    }

    private static void keyPromises() {
        AnswerDoor x = new AnswerDoor();
        x.type(0, 0, 1, 100);
        x.field(0, 1, 1, 1, 5, false);
        x.field(0, 2, 2, 1, 5, false);
        x.thing(0, 7, true);
        yes("8 edge", x.key(0, 7, 0, -1));
        yes("8 edge", x.key(0, 7, 3, 31));
        yes("8 told", x.key(0, 7, 1, 31));
        due("8 ask", ask(x, "{1{0}}", 0, 0, 7, 9), 1);
        call("8 its KEY", x, 1, 0, 1, 1, 0, 31);
        due("8 kept", x.kept(0, 7), 101);
        no("8 to", x.key(0, 7, 1, 32));
        no("8 to", x.key(0, 7, 1, -2));
        no("8 f", x.key(0, 7, 4, 0));
        no("8 f", x.key(0, 7, -1, 0));
        no("8 key", x.key(0, 32, 0, 0));
        no("8 key", x.key(0, -1, 0, 0));
        no("8 type", x.key(6, 0, 0, 0));
        no("8 type", x.key(-1, 0, 0, 0));
        due("8 still kept", x.kept(0, 7), 101);
        yes("8 NONE", x.key(0, 7, 1, -1));
        due("8 kept goes", x.kept(0, 7), -1);
        due("8 ask", ask(x, "{1{0}}", 0, 0, 7, 9), 1);
        answer("8 NONE", x, 1, 0, 2);
        due("8 NONE is no THING", x.count(5), 0);

        yes("9 row", x.row(0, 7, 2, 5, keys(31, 0, 31, 15, 16) | 0xFE000000));
        due("9 ask", ask(x, "{2{0}}", 0, 0, 7, 9), 1);
        answer("9 row", x, 1, 5, 0, 2, 0, 2, 0, 2, 0, 2, 0, 2);
        call("9 each once", x, 1, 0, 1, x.count(0) - 1, 0, 31, 0, 15, 16);
        due("9 nulls each once", x.count(5), 4);
        int to = x.kept(0, 7);
        no("9 n", x.row(0, 7, 2, 6, 0));
        no("9 n", x.row(0, 7, 2, -1, 0));
        no("9 f", x.row(0, 7, 4, 1, 0));
        no("9 f", x.row(0, 7, -1, 1, 0));
        no("9 key", x.row(0, 32, 2, 1, 0));
        no("9 key", x.row(0, -1, 2, 1, 0));
        no("9 type", x.row(6, 7, 2, 1, 0));
        no("9 type", x.row(-1, 7, 2, 1, 0));
        due("9 still kept", x.kept(0, 7), to);
        yes("9 bits behind", x.row(0, 7, 2, 1, -1));
        due("9 kept goes", x.kept(0, 7), -1);
        due("9 ask", ask(x, "{2{0}}", 0, 0, 7, 9), 1);
        answer("9 one", x, 1, 1, 0, 2);
        yes("9 empty", x.row(0, 7, 2, 0, -1));
        due("9 an empty LIST is not null", ask(x, "{2{0}}", 0, 0, 7, 9), 0);
        answer("9 empty", x, 1, 0);
    }

    private static void askerPromise() {
        AnswerDoor x = new AnswerDoor();
        int[][] bad = {{-1, 1, 1, 1}, {4, 1, 1, 1}, {0, -1, 1, 1}, {0, 64, 1, 1}, {0, 1, 0, 1}, {0, 1, 501, 1},
            {0, 1, 1, -1}, {0, 1, 1, 51}};
        for (int[] b : bad) {
            no("10 " + Arrays.toString(b), x.asker(b[0], b[1], b[2], b[3]));
        }
        due("10 nothing happened", x.count(10), 100);
        yes("10 more", x.asker(3, 63, 500, 50));
        due("10 it has no more", x.count(13), 100);
        x.pass(3);
        due("10 it fills", x.count(13), 250);
        x.pass(1000);
        due("10 at most FULL", x.count(13), 500);
        yes("10 less", x.asker(3, 0, 30, 0));
        due("10 FULL at most", x.count(13), 30);
        due("10 without rights", ask(x, "{0}", 3, 0, 0, 9), 1);
        answer("10 without rights", x, 0, 1);
        due("10 paid", x.count(13), 29);
        due("10 at once", x.count(0), 1003);
        x.pass(5);
        due("10 no FILL", x.count(13), 29);
        yes("10 some rights", x.asker(3, 4, 500, 0));
        due("10 as it was", x.count(13), 29);
        x.thing(2, 0, true);
        due("10 the right one", ask(x, "{0}", 3, 2, 0, 9), 0);
        due("10 another one", ask(x, "{0}", 3, 3, 0, 9), 1);
        due("10 no call", x.count(2), 0);
    }

    private static void passPromise() {
        AnswerDoor x = new AnswerDoor();
        due("11 0", x.pass(0), -1);
        due("11 -1", x.pass(-1), -1);
        due("11 1001", x.pass(1001), -1);
        due("11 most", x.pass(Integer.MAX_VALUE), -1);
        due("11 NOW", x.count(0), 0);
        due("11 1", x.pass(1), 1);
        for (int i = 1; i < 100; i++) {
            due("11 1000", x.pass(1000), 1 + i * 1000);
        }
        due("11 beyond", x.pass(1000), -1);
        due("11 to 99900", x.pass(899), 99900);
        tell(x, "{0}");
        due("14 beyond", x.ask(0, 0, 0, 101), -1);
        due("14 the TAPE stays", x.count(1), 3);
        due("14 just so", x.ask(0, 0, 0, 100), 1);
        due("11 99901", x.count(0), 99901);
        due("11 the last", x.pass(99), 100000);
        due("11 none more", x.pass(1), -1);
    }

    private static void tapePromises() {
        AnswerDoor x = new AnswerDoor();
        due("12 feed", x.feed(0x7B307D20, 0x20202020, 0x20202020, 0x20202020, 0x20202020), 20);
        due("12 the highest first", x.cost(0), 1);
        due("13 too many", x.end(21), -1);
        due("13 below 0", x.end(-1), -1);
        due("13 as it was", x.count(1), 20);
        due("13 all", x.end(20), 20);
        due("13 some", x.end(2), 2);
        due("13 cut", x.cost(0), -2 - 9);
        due("13 no more than it has", x.end(3), -1);
        due("12 behind", x.feed(0x7D000000, 0, 0, 0, 0), 22);
        due("13 cut", x.end(3), 3);
        due("12 behind", x.cost(0), 1);
        due("13 none", x.end(0), 0);
        for (int i = 1; i <= 10; i++) {
            due("12 feed", x.feed(-1, -1, -1, -1, -1), 20 * i);
        }
        due("12 more than 200", x.feed(0, 0, 0, 0, 0), -1);
        due("12 none comes", x.count(1), 200);
        due("13 181", x.end(181), 181);
        due("12 201", x.feed(0, 0, 0, 0, 0), -1);
        due("13 180", x.end(180), 180);
        due("12 200", x.feed(0, 0, 0, 0, 0), 200);
        due("12 bytes above 127", x.cost(0), -2 - 1);
    }

    private static AnswerDoor linked() {
        AnswerDoor x = new AnswerDoor();
        x.field(0, 2, 2, 0, 5, false);
        x.field(0, 3, 1, 0, 5, false);
        x.asker(0, 63, 500, 50);
        x.pass(10);
        return x;
    }

    private static void fault(AnswerDoor x, String text, int place, int kind) {
        int want = -2 - (1 + 4 * place + kind);
        due("14 cost of " + text, cost(x, text, 0), want);
        int now = x.count(0);
        due("14 ask of " + text, ask(x, text, 0, 0, 0, 5), want);
        due("14 the TAPE is empty", x.count(1), 0);
        due("14 nothing paid", x.count(10), 500);
        due("14 no TICK", x.count(0), now);
    }

    private static void faults() {
        AnswerDoor x = linked();
        fault(x, "", 0, 0);
        fault(x, "   ", 3, 0);
        fault(x, "0", 0, 0);
        fault(x, "}", 0, 0);
        fault(x, "{}", 1, 0);
        fault(x, "{ 0 ", 4, 0);
        fault(x, "{4}", 1, 0);
        fault(x, "{/}", 1, 0);
        fault(x, "{0{0}}", 2, 0);
        fault(x, "{0 {0}}", 3, 0);
        fault(x, "{2}", 2, 0);
        fault(x, "{3 1{0}}", 3, 0);
        fault(x, "{3{}}", 3, 0);
        fault(x, "{3{0}", 5, 0);
        fault(x, "{0}{0}", 3, 0);
        fault(x, "{0}}", 3, 0);
        fault(x, "{0} 0", 4, 0);
        fault(x, "{{0}}", 1, 0);
        fault(x, "{0\t1}", 2, 0);
        fault(x, "{0100100}", 7, 2);
        fault(x, "{0 1 0 0 1 0 3{0}}", 13, 2);
        fault(x, "{0100109}", 7, 0);
        fault(x, "{3{010010}010103{0}}", 15, 2);
        fault(x, "{3{3{3{3{3{0}}}}}}", 10, 1);
        fault(x, "{3{3{3{3{0 {0}}}}}}", 11, 0);
        StringBuilder nodes = new StringBuilder("{");
        for (int i = 0; i < 3; i++) {
            nodes.append("3{3{0}3{0}3{0}3{0}3{0}}");
        }
        fault(x, nodes + "3{0}3{0}}", 1 + 3 * 23 + 5, 1);
        due("15 twenty NODES", cost(x, nodes + "3{0}}", 0), 20);
        due("15 six FIELDS, five within", cost(x, " { 2 {2{2{2{0}}}} 010 1 1 } ", 0), 1 + 5 + 25 + 125 + 625);
        StringBuilder full = new StringBuilder("{0");
        while (full.length() < 199) {
            full.append(' ');
        }
        due("15 200 bytes", cost(x, full + "}", 0), 1);
        fault(x, full + " ", 200, 0);
    }

    private static void prices() {
        AnswerDoor x = linked();
        due("15 type", x.cost(-1), -1);
        due("15 type", x.cost(6), -1);
        x.field(0, 1, 2, 4, 3, false);
        x.type(0, 0, 2, 0);
        x.type(4, 1, 9, 0);
        String text = "{3{1{0}}2{1{0}0}1{0}}";
        due("15 cost", cost(x, text, 0), 2 + 2 + 27 + 10 + 5 * 27 + 27);
        due("15 of another type", cost(x, "{0}", 4), 9);
        due("14 paid", ask(x, text, 0, 0, 0, 9), 1);
        due("14 paid, a TICK filled", x.count(10), 500 - 203 + 50);
        due("16 none yet", x.dear(), -1);
        int[][] cases = {{1, 0}, {2, 2}, {3, 2}, {4, 4}, {30, 4}, {31, 9}, {40, 9}, {41, 11}, {175, 11}, {176, 17},
            {202, 17}};
        for (int[] c : cases) {
            x.asker(1, 63, c[0], 50);
            x.pass(20);
            int now = x.count(0);
            due("14 too dear for " + c[0], ask(x, text, 1, 0, 0, 9), 2);
            due("16 for " + c[0], x.dear(), c[1]);
            due("14 nothing is paid", x.count(11), c[0]);
            due("14 no TICK", x.count(0), now);
            due("14 the TAPE is empty", x.count(1), 0);
            due("17 the latest answer", x.count(3), 2);
            due("18 the latest calls", x.count(2), 1);
            x.asker(1, 63, 500, 50);
            x.pass(20);
        }
        x.asker(1, 63, 203, 0);
        due("14 just so", ask(x, text, 1, 0, 0, 9), 1);
        due("14 all paid", x.count(11), 0);
        due("16 stays", x.dear(), 17);
        fault(linked(), "{0", 2, 0);
    }

    private static void wrongAsks() {
        AnswerDoor x = linked();
        tell(x, "{0}");
        int[][] bad = {{-1, 0, 0, 5}, {4, 0, 0, 5}, {0, -1, 0, 5}, {0, 6, 0, 5}, {0, 0, -1, 5}, {0, 0, 32, 5},
            {0, 0, 0, 0}, {0, 0, 0, -1}, {0, 0, 0, 201}, {0, 0, 0, Integer.MAX_VALUE}};
        for (int[] b : bad) {
            due("14 " + Arrays.toString(b), x.ask(b[0], b[1], b[2], b[3]), -1);
        }
        due("14 nothing happens", x.count(1), 3);
        due("14 most TICKS", x.ask(3, 5, 31, 200), 1);
    }

    private static void order() {
        AnswerDoor x = linked();
        x.type(1, 1, 1, 0);
        x.type(2, 1, 1, 0);
        x.type(0, 0, 1, 900);
        x.helper(1, 1, 2, 2, 0, 1);
        x.field(0, 0, 2, 1, 5, false);
        x.field(0, 1, 2, 2, 5, false);
        for (int k = 0; k < 4; k++) {
            x.thing(0, k, true);
        }
        x.row(0, 0, 2, 2, keys(1, 2));
        x.row(0, 0, 0, 1, keys(30));
        x.row(0, 1, 0, 2, keys(1, 2));
        x.row(0, 1, 1, 1, keys(5));
        x.row(0, 2, 0, 3, keys(3, 1, 4));
        x.row(0, 2, 1, 3, keys(6, 5, 7));
        String text = "{2{1{0}0{0}} 0{0}}";
        due("14 asked", ask(x, text, 0, 0, 0, 50), 1);
        call("III root", x, 0, 0, 0, 10, 0, 0);
        call("III HELPER by HELPER", x, 1, 0, 0, 11, 0, 1, 2);
        call("III what is behind", x, 2, 1, 1, 11, 0, 30);
        call("III first of 2", x, 3, 1, 2, 12, 0, 5, 6);
        call("III first of 1", x, 4, 1, 1, 12, 0, 1, 2);
        call("III rate two", x, 5, 1, 2, 13, 0, 7);
        call("III next of 1", x, 6, 1, 1, 13, 0, 3, 4);
        due("III calls", x.count(2), 7);
        due("III NOW", x.count(0), 14);
        due("III asked for", x.count(4), 11);
        due("20 kept", x.kept(0, 0), 911);
        due("20 kept", x.kept(0, 1), 912);
        due("14 again, with what is kept", ask(x, text, 0, 0, 0, 50), 1);
        call("III ahead of what is behind", x, 0, 1, 2, 14, 0, 5, 6);
        call("III KNOWN at once", x, 1, 1, 1, 14, 0, 1, 2);
        call("III next", x, 2, 1, 2, 15, 0, 7);
        call("III the one behind it", x, 3, 1, 1, 15, 0, 3, 4);
        call("III the last", x, 4, 1, 1, 16, 0, 30);
        due("18 no such call", x.call(5, 0), -1);
        due("18 no such call", x.call(-1, 0), -1);
        due("18 another what", x.call(0, 5), -1);
        due("18 another what", x.call(0, 9), -1);
        due("18 another what", x.call(0, -1), -1);
        due("18 no such KEY", x.call(0, 12), -1);
        due("18 no such KEY", x.call(0, Integer.MAX_VALUE), -1);
    }

    private static void musts() {
        AnswerDoor x = linked();
        x.field(1, 1, 1, 2, 5, true);
        x.field(0, 2, 2, 1, 5, false);
        x.thing(0, 0, true);
        for (int k = 1; k < 4; k++) {
            x.thing(1, k, true);
            x.number(1, k, 0, 10 * k);
        }
        x.thing(2, 9, true);
        x.number(2, 9, 3, -1);
        x.key(1, 1, 1, 9);
        x.key(1, 2, 1, 8);
        x.row(0, 0, 2, 4, keys(1, 2, 3, 1));
        x.number(0, 0, 0, -5);
        due("17 ask", ask(x, "{0 2{0 1{3}} 0}", 0, 0, 0, 9), 1);
        answer("17 MUST", x, 1, -5, 4, 1, 10, 1, -1, 0, 6, 0, 6, 1, 10, 1, -1, -5);
        due("21 nulls", x.count(5), 1);
        due("17 MUST not told", ask(x, "{2{0}}", 0, 0, 0, 9), 0);
        answer("17 MUST not told", x, 1, 4, 1, 10, 1, 20, 1, 30, 1, 10);
        x.field(0, 2, 2, 1, 5, true);
        due("17 ask", ask(x, "{0 2{0 1{3}} 0}", 0, 0, 0, 9), 1);
        answer("17 it takes with it", x, 0, 6);
        due("21 nulls of 6 not", x.count(5), 1);
        x.field(0, 2, 2, 1, 1, true);
        due("17 ask", ask(x, "{0 2{0 1{3}} 0}", 0, 0, 0, 9), 0);
        answer("17 a whole one", x, 1, -5, 1, 1, 10, 1, -1, -5);
        x.asker(1, 1, 100, 0);
        due("17 ask", ask(x, "{2{0}}", 1, 0, 0, 9), 1);
        answer("17 a null of 1", x, 0, 6);
        due("21 nulls", x.count(5), 1);
    }

    private static void late() {
        AnswerDoor x = linked();
        x.helper(1, 3, 1, 1, 0, 1);
        x.field(0, 2, 2, 1, 5, false);
        x.field(1, 3, 1, 2, 5, false);
        x.type(1, 1, 1, 0);
        x.type(2, 2, 1, 60);
        x.thing(0, 0, true);
        x.thing(1, 1, true);
        x.thing(1, 2, true);
        x.thing(2, 2, true);
        x.row(0, 0, 2, 3, keys(1, 2, 3));
        x.key(1, 1, 3, 1);
        x.key(1, 2, 3, 2);
        due("III keep one", ask(x, "{0}", 0, 2, 2, 9), 0);
        due("III asked", ask(x, "{2{3{0}}}", 0, 0, 0, 5), 1);
        due("III the end of its TICKS", x.count(0), 16);
        answer("III late", x, 1, 3, 1, 0, 2, 1, 1, 0, 0, 5);
        call("III came", x, 1, 1, 1, 12, 0, 1);
        call("III comes at the end", x, 2, 1, 1, 13, 0, 2);
        call("III forgotten", x, 3, 1, 1, 14, 2, 3);
        call("III comes at the end", x, 4, 2, 2, 15, 0, 1);
        due("III calls", x.count(2), 5);
        due("21 asked for", x.count(4), 5);
        due("21 nulls", x.count(5), 2);
        due("III a TICK less", ask(x, "{2{3{0}}}", 0, 0, 0, 4), 1);
        answer("III a TICK less", x, 1, 3, 1, 0, 5, 0, 5, 0, 5);
        due("III no call in the last TICK", x.count(2), 4);
        due("21 asked for all the same", x.count(4), 5);
        due("21 nulls", x.count(5), 3);
        due("III in time", ask(x, "{2{3{0}}}", 0, 0, 0, 200), 1);
        answer("III in time", x, 1, 3, 1, 0, 2, 1, 1, 0, 0, 2);
        due("III it ends ahead", x.count(0), 26);
    }

    private static void lives() {
        AnswerDoor x = new AnswerDoor();
        x.type(3, 0, 1, 4);
        x.thing(3, 9, true);
        x.asker(1, 0, 9, 9);
        due("20 wrong type", x.kept(-1, 0), -1);
        due("20 wrong type", x.kept(6, 0), -1);
        due("20 wrong key", x.kept(3, -1), -1);
        due("20 wrong key", x.kept(3, 32), -1);
        due("20 ask", ask(x, "{0}", 0, 3, 9, 9), 0);
        due("20 kept", x.kept(3, 9), 5);
        due("III kept, no right", ask(x, "{0}", 1, 3, 9, 9), 1);
        answer("III kept, no right", x, 0, 1);
        x.pass(3);
        due("20 still", x.kept(3, 9), 5);
        due("III known at once", ask(x, "{0}", 2, 3, 9, 9), 0);
        due("III no call", x.count(2), 0);
        due("20 not longer for that", x.kept(3, 9), 5);
        x.pass(1);
        due("20 over", x.kept(3, 9), -1);
        due("III asked for", ask(x, "{0}", 2, 3, 9, 9), 0);
        due("III a call", x.count(2), 1);
        due("20 anew", x.kept(3, 9), 10);
    }

    private static void breakers() {
        AnswerDoor x = new AnswerDoor();
        due("19 h", x.breaker(-1, 0), -1);
        due("19 h", x.breaker(5, 0), -1);
        due("19 what", x.breaker(0, 3), -1);
        due("19 what", x.breaker(0, -1), -1);
        x.down(0, 0, 3);
        x.helper(0, 1, 8, 8, 3, 5);
        due("19 fails", ask(x, "{0}", 0, 0, 0, 9), 1);
        due("19 fails", ask(x, "{0}", 0, 0, 0, 9), 1);
        due("19 counted", x.breaker(0, 1), 2);
        x.pass(2);
        due("19 not there is no FAILED", ask(x, "{0}", 0, 0, 0, 9), 1);
        due("19 anew", x.breaker(0, 1), 0);
        x.down(0, 5, 7);
        for (int i = 1; i < 3; i++) {
            due("19 fails", ask(x, "{0}", 0, 0, 0, 9), 1);
            due("19 counted", x.breaker(0, 1), i);
        }
        due("19 the third", ask(x, "{0}", 0, 0, 0, 9), 1);
        due("19 open", x.breaker(0, 0), 1);
        due("19 open: 0", x.breaker(0, 1), 0);
        due("19 to", x.breaker(0, 2), 13);
        due("19 refused", ask(x, "{0}", 0, 0, 0, 9), 1);
        answer("19 refused", x, 0, 4);
        due("19 at once", x.count(0), 8);
        due("21 asked for", x.count(4), 1);
        due("21 nulls", x.count(5), 1);
        x.pass(4);
        due("19 open", x.breaker(0, 0), 1);
        x.pass(1);
        due("19 to be tried", x.breaker(0, 0), 2);
        due("19 to, still", x.breaker(0, 2), 13);
        due("19 to be tried: 0", x.breaker(0, 1), 0);
        x.down(0, 13, 13);
        due("19 tried", ask(x, "{0}", 0, 0, 0, 9), 1);
        due("19 open again by one", x.breaker(0, 0), 1);
        due("19 open again", x.breaker(0, 2), 19);
    }

    /** A HELPER with many calls on their way as its BREAKER opens, is tried, and closes. */
    private static void breakerWithin() {
        AnswerDoor x = linked();
        x.helper(0, 1, 8, 8, 0, 1);
        x.helper(1, 3, 1, 1, 2, 2);
        x.type(1, 1, 1, 0);
        x.field(0, 2, 2, 1, 5, false);
        x.field(0, 3, 1, 2, 5, false);
        x.field(2, 3, 1, 3, 5, false);
        x.field(3, 3, 1, 4, 5, false);
        x.field(4, 2, 2, 1, 5, false);
        x.type(2, 2, 1, 0);
        x.type(3, 2, 1, 0);
        x.type(4, 3, 1, 0);
        x.helper(2, 2, 8, 8, 0, 1);
        x.thing(0, 0, true);
        x.thing(2, 0, true);
        x.thing(3, 0, true);
        x.thing(4, 0, true);
        x.key(0, 0, 3, 0);
        x.key(2, 0, 3, 0);
        x.key(3, 0, 3, 0);
        x.row(0, 0, 2, 5, keys(1, 2, 3, 4, 5));
        x.row(4, 0, 2, 3, keys(11, 12, 13));
        x.down(1, 11, 13);
        String text = "{2{0}3{3{3{2{0}}}}}";
        due("III ask", ask(x, text, 0, 0, 0, 99), 1);
        call("III fails", x, 1, 1, 1, 11, 1, 1);
        call("III the other helper", x, 2, 2, 2, 11, 0, 0);
        call("III fails", x, 3, 1, 1, 12, 1, 2);
        call("III fails, counts nothing", x, 4, 1, 1, 13, 1, 3);
        call("III between", x, 5, 2, 3, 13, 0, 0);
        call("III ahead of the opening", x, 6, 1, 1, 14, 0, 4);
        call("III between", x, 7, 3, 4, 15, 0, 0);
        due("III the fifth is refused", x.count(2), 8);
        answer("III all", x, 1, 5, 0, 3, 0, 3, 0, 3, 0, 2, 0, 4, 1, 1, 1, 3, 0, 4, 0, 4, 0, 4);
        due("19 open from 15 for 2; the one of 14 tells nothing", x.breaker(1, 2), 17);
        due("III NOW", x.count(0), 17);
        due("19 to be tried", x.breaker(1, 0), 2);

        x.helper(1, 3, 1, 2, 2, 2);
        x.down(1, 18, 18);
        due("III opens again", ask(x, "{2{0}}", 0, 0, 0, 5), 1);
        answer("III two FAILED, the last too late", x, 1, 5, 0, 3, 0, 3, 0, 2, 0, 2, 0, 5);
        due("III NOW", x.count(0), 22);
        due("19 open from 21", x.breaker(1, 2), 23);
        x.pass(1);
        due("19 tried", ask(x, "{2{0}}", 0, 0, 0, 99), 1);
        call("III one call alone", x, 1, 1, 1, 24, 0, 1);
        call("III behind it at its rate", x, 2, 1, 1, 27, 0, 2);
        call("III behind it at its rate", x, 3, 1, 1, 27, 0, 3);
        call("III next", x, 4, 1, 1, 28, 0, 4);
        call("III next", x, 5, 1, 1, 28, 0, 5);
        due("III NOW", x.count(0), 31);
        due("19 closed", x.breaker(1, 0), 0);

        x.helper(1, 3, 1, 1, 1, 7);
        x.down(1, 32, 32);
        due("III opens", ask(x, "{2{0}}", 0, 0, 0, 99), 1);
        due("19 open", x.breaker(1, 2), 42);
        x.pass(10);
        due("III try fails", x.down(1, x.count(0) + 1, x.count(0) + 1), 4);
        due("III try fails", ask(x, "{2{0}}", 0, 0, 0, 99), 1);
        answer("III one FAILED, what waits is refused", x, 1, 5, 0, 3, 0, 4, 0, 4, 0, 4, 0, 4);
        x.pass(20);
        int now = x.count(0);
        due("III a try forgotten", ask(x, "{2{0}}", 0, 0, 0, 2), 1);
        answer("III a try forgotten", x, 1, 5, 0, 5, 0, 5, 0, 5, 0, 5, 0, 5);
        due("III forgotten", x.call(1, 4), 2);
        due("19 as if it had FAILED", x.breaker(1, 2), now + 2 + 7);
    }

    private static void forgottenCountsNothing() {
        AnswerDoor x = new AnswerDoor();
        x.helper(0, 5, 8, 8, 2, 9);
        x.down(0, 0, 99);
        due("III late", ask(x, "{0}", 0, 0, 0, 4), 1);
        answer("III late", x, 0, 5);
        due("19 counts nothing", x.breaker(0, 1), 0);
        due("III at its last TICK", ask(x, "{0}", 0, 0, 0, 5), 1);
        answer("III at its last TICK", x, 0, 3);
        due("19 counts", x.breaker(0, 1), 1);
        due("21 NOW", x.count(0), 9);
    }

    private static void counts() {
        AnswerDoor x = new AnswerDoor();
        for (int what : new int[] {-1, 7, 8, 9, 14, Integer.MAX_VALUE, Integer.MIN_VALUE}) {
            due("21 count(" + what + ")", x.count(what), -1);
        }
        x.type(0, 0, 9, 0);
        x.asker(2, 63, 100, 3);
        due("21 ask", ask(x, "{0}", 2, 0, 0, 9), 1);
        due("21 bucket", x.count(12), 94);
        due("21 NOW", x.count(0), 1);
        tell(x, "{0}x");
        due("21 TAPE", x.count(1), 4);
        due("21 FAULT", x.ask(0, 0, 0, 9), -2 - 13);
        due("21 calls stay", x.count(2), 1);
        due("21 numbers stay", x.count(3), 2);
        due("21 asked for stays", x.count(4), 1);
        due("21 nulls stay", x.count(5), 1);
        due("21 spells", x.count(6), 0);
    }

    /** A door is good for 512 calls: several of them, told alike, read a piece of the answer each. */
    private static void biggestAnswer() {
        int inner = 1 + 5 + 1;
        int most = 1 + 3 + 3 * (1 + 5 * (inner + 5 * (inner + 5 * 7)));
        int piece = 450;
        int ones = 0;
        for (int from = 0; from < most; from += piece) {
            AnswerDoor x = withBiggestAnswer(most);
            for (int i = from; i < Math.min(most, from + piece); i++) {
                ones += x.answer(i) == 1 ? 1 : 0;
            }
            due("17 behind it", x.answer(most), -1);
        }
        due("17 THINGS told", ones, 1 + 3 * (5 + 25 + 125));
    }

    private static AnswerDoor withBiggestAnswer(int numbers) {
        AnswerDoor x = linked();
        x.row(0, 0, 2, 5, keys(0, 0, 0, 0, 0));
        x.thing(0, 0, true);
        StringBuilder text = new StringBuilder("{");
        for (int i = 0; i < 3; i++) {
            text.append("2{2{2{000000}00000}00000}");
        }
        text.append("000}");
        due("15 cost", cost(x, text.toString(), 0), 1 + 3 * (5 + 25 + 125));
        due("17 ask", ask(x, text.toString(), 0, 0, 0, 9), 0);
        due("17 numbers", x.count(3), numbers);
        return x;
    }

    public static void main(String[] args) {
        test("Promise 1", PromiseTests::newObject);
        test("Promise 1: all as at first", PromiseTests::atFirst);
        test("III: many calls", PromiseTests::manyCalls);
        test("III: five within one another", PromiseTests::fiveWithin);
        test("Promise 2", PromiseTests::helperPromise);
        test("Promise 3", PromiseTests::downPromise);
        test("Promise 4", PromiseTests::typePromise);
        test("Promise 5", PromiseTests::fieldPromise);
        test("Promises 6 and 7", PromiseTests::thingPromises);
        test("Promises 8 and 9", PromiseTests::keyPromises);
        test("Promise 10", PromiseTests::askerPromise);
        test("Promise 11", PromiseTests::passPromise);
        test("Promises 12 and 13", PromiseTests::tapePromises);
        test("II: FAULTS", PromiseTests::faults);
        test("II: PRICED; promises 15 and 16", PromiseTests::prices);
        test("Promise 14", PromiseTests::wrongAsks);
        test("III: the order of calls; promise 18", PromiseTests::order);
        test("III: THE ANSWER; promise 17", PromiseTests::musts);
        test("III: the end of its TICKS", PromiseTests::late);
        test("III: KEPT; promise 20", PromiseTests::lives);
        test("III: a BREAKER; promise 19", PromiseTests::breakers);
        test("III: a BREAKER within an ASK", PromiseTests::breakerWithin);
        test("III: what is forgotten counts nothing", PromiseTests::forgottenCountsNothing);
        test("Promise 21", PromiseTests::counts);
        test("III: the longest answer", PromiseTests::biggestAnswer);
        report();
    }
}
