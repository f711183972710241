/** The sentences of 'Terms' and of promises 1 to 13 that name an edge, each with a test of its own. */
public final class TellingEdges extends Checks {
    private static final String LISTS = "{2{0}3{0}}";

    /** NOW is then the last TICK but so many. */
    private static AnswerDoor lateBy(int left) {
        AnswerDoor x = new AnswerDoor();
        for (int i = 0; i < 99; i++) {
            x.pass(1000);
        }
        if (left < 1000) {
            x.pass(1000 - left);
        }
        return x;
    }

    /** KEY 0 of TYPE 0 (of HELPER 1) leads to the KEYS 0 to 8 of TYPE 1 (of HELPER 0), nine at once. */
    private static AnswerDoor nine() {
        AnswerDoor x = new AnswerDoor();
        x.type(0, 1, 1, 0);
        x.field(0, 2, 2, 1, 5, false);
        x.field(0, 3, 2, 1, 5, false);
        x.thing(0, 0, true);
        x.row(0, 0, 2, 5, keys(0, 1, 2, 3, 4));
        x.row(0, 0, 3, 4, keys(5, 6, 7, 8));
        return x;
    }

    /** HELPER 0 is DOWN in its first TICKS, and has a BREAKER of one. */
    private static AnswerDoor brittle(int wait, int downTo) {
        AnswerDoor x = new AnswerDoor();
        x.helper(0, 1, 8, 8, 1, wait);
        x.down(0, 0, downTo);
        due("it fails", ask(x, "{0}", 0, 0, 0, 9), 1);
        due("it opens", x.breaker(0, 0), 1);
        return x;
    }

    /** All that can be told of the first of all is told otherwise; another door knows nothing of it. */
    private static void newObject() {
        AnswerDoor told = new AnswerDoor();
        AnswerDoor early = new AnswerDoor();
        told.helper(0, 9, 1, 1, 1, 99);
        told.type(0, 0, 9, 999);
        told.field(0, 0, 1, 0, 1, true);
        told.thing(0, 0, true);
        told.number(0, 0, 1, 5);
        told.key(0, 0, 0, 0);
        told.asker(0, 0, 50, 0);
        told.pass(7);
        told.down(0, 0, 100000);
        due("without the RIGHT", ask(told, "{0{1}1}", 0, 0, 0, 9), 1);
        due("it opens", ask(told, "{1}", 1, 0, 0, 9), 1);
        due("DEAR", told.asker(2, 63, 8, 0) ? ask(told, "{1}", 2, 0, 0, 9) : 9, 2);
        told.feed(0, 0, 0, 0, 0);
        for (AnswerDoor x : new AnswerDoor[] {early, new AnswerDoor()}) {
            for (int what = 0; what < 14; what++) {
                due("count(" + what + ")", x.count(what), what < 7 ? 0 : what < 10 ? -1 : 100);
            }
            breakerIs("at first", x, 0, 0, 0, -1);
            due("dear", x.dear(), -1);
            due("answer", x.answer(0), -1);
            due("call", x.call(0, 0), -1);
            due("kept", x.kept(0, 0), -1);
            due("no THINGS", ask(x, "{0123}", 0, 0, 0, 9), 1);
            answer("no THINGS", x, 0, 2);
            due("NOW", x.count(0), 1);
            x.thing(0, 0, true);
            due("numbers", ask(x, "{0123}", 0, 0, 0, 9), 0);
            answer("numbers", x, 1, 0, 0, 0, 0);
        }
    }

    private static void ticks() {
        AnswerDoor x = new AnswerDoor();
        due("NOW at first", x.count(0), 0);
        due("a spell of TICK 0", x.down(0, 0, 0), 1);
        due("a spell of TICK 100000", x.down(0, 100000, 100000), 2);
        due("a spell of all", x.down(0, 0, 100000), 3);
        due("a spell from ahead of TICK 0", x.down(0, -1, 0), -1);
        due("a spell to behind TICK 100000", x.down(0, 100000, 100001), -1);
        x = lateBy(1);
        due("the last but one", x.count(0), 99999);
        due("the last", x.pass(1), 100000);
        due("none behind it", x.pass(1), -1);
        due("it stays", x.count(0), 100000);
    }

    private static void helpers() {
        AnswerDoor x = new AnswerDoor();
        for (int h = 0; h < 5; h++) {
            yes("helper " + h, x.helper(h, h + 2, 8, 8, 0, 1));
            yes("a TYPE of it", x.type(h, h, 1, 0));
            due("a spell of it", x.down(h, 90, 99), h + 1);
            due("a BREAKER of it", x.breaker(h, 0), 0);
        }
        for (int h : new int[] {-1, 5}) {
            no("helper " + h, x.helper(h, 1, 8, 8, 0, 1));
            no("a TYPE of it", x.type(0, h, 1, 0));
            due("a spell of it", x.down(h, 90, 99), -1);
            due("a BREAKER of it", x.breaker(h, 0), -1);
        }
        for (int h = 0; h < 5; h++) {
            int now = x.count(0);
            due("ask", ask(x, "{0}", 0, h, 7, 20), 1);
            call("its own DELAY", x, 0, h, h, now, 0, 7);
            due("its own DELAY", x.count(0), now + h + 2);
        }
    }

    private static void delay() {
        AnswerDoor x = new AnswerDoor();
        for (int h = 0; h < 5; h++) {
            x.type(0, h, 1, 0);
            due("at first", ask(x, "{0}", 0, 0, 0, 9), 1);
            due("at first", x.count(0), h + 1);
        }
        for (int delay = 1; delay <= 9; delay++) {
            x = new AnswerDoor();
            x.thing(0, 0, true);
            yes("taken", x.helper(0, delay, 8, 8, 0, 1));
            due("in time", ask(x, "{0}", 0, 0, 0, delay), 0);
            due("NOW", x.count(0), delay);
            if (delay > 1) {
                due("not in time", ask(x, "{0}", 0, 0, 0, delay - 1), 1);
                answer("not in time", x, 0, 5);
            }
        }
        no("0", x.helper(0, 0, 8, 8, 0, 1));
        no("10", x.helper(0, 10, 8, 8, 0, 1));
        int now = x.count(0);
        due("as it was", ask(x, "{0}", 0, 0, 0, 20), 0);
        due("as it was", x.count(0), now + 9);
    }

    private static void sizesAre(AnswerDoor x, int batch) {
        due("ask", ask(x, LISTS, 0, 0, 0, 99), 1);
        int key = 0;
        for (int k = 1; k < x.count(2); k++) {
            due("KEYS of call " + k, x.call(k, 3), Math.min(batch, 9 - key));
            for (int i = 0; i < x.call(k, 3); i++) {
                due("KEY", x.call(k, 10 + i), key);
                key++;
            }
        }
        due("all of them", key, 9);
    }

    private static void batch() {
        for (int h = 0; h < 5; h++) {
            AnswerDoor x = nine();
            x.type(1, h, 1, 0);
            sizesAre(x, 8);
        }
        for (int batch = 1; batch <= 8; batch++) {
            AnswerDoor x = nine();
            yes("taken", x.helper(0, 1, batch, 8, 0, 1));
            no("0", x.helper(0, 1, 0, 8, 0, 1));
            no("9", x.helper(0, 1, 9, 8, 0, 1));
            sizesAre(x, batch);
        }
    }

    private static void rate() {
        for (int rate = 1; rate <= 8; rate++) {
            AnswerDoor x = nine();
            yes("taken", x.helper(0, 1, 1, rate, 0, 1));
            no("0", x.helper(0, 1, 1, 0, 0, 1));
            no("9", x.helper(0, 1, 1, 9, 0, 1));
            due("ask", ask(x, LISTS, 0, 0, 0, 99), 1);
            due("calls", x.count(2), 10);
            for (int i = 0; i < 9; i++) {
                due("TICK of call " + i + " by " + rate, x.call(1 + i, 2), 1 + i / rate);
            }
        }
    }

    private static void fails() {
        for (int fails = 1; fails <= 9; fails++) {
            AnswerDoor x = new AnswerDoor();
            x.down(0, 0, 99);
            yes("taken", x.helper(0, 1, 8, 8, fails, 5));
            no("-1", x.helper(0, 1, 8, 8, -1, 5));
            no("10", x.helper(0, 1, 8, 8, 10, 5));
            for (int i = 1; i < fails; i++) {
                due("fails", ask(x, "{0}", 0, 0, 0, 9), 1);
                breakerIs("by " + i + " of " + fails, x, 0, 0, i, -1);
            }
            due("fails", ask(x, "{0}", 0, 0, 0, 9), 1);
            answer("fails", x, 0, 3);
            breakerIs("by all " + fails, x, 0, 1, 0, fails + 5);
        }
    }

    private static void noBreaker() {
        for (int times = 0; times < 2; times++) {
            AnswerDoor x = new AnswerDoor();
            x.down(0, 0, 99);
            if (times == 1) {
                yes("taken", x.helper(0, 1, 8, 8, 0, 1));
            }
            for (int i = 0; i < 12; i++) {
                due("fails", ask(x, "{0}", 0, 0, 0, 9), 1);
                answer("fails", x, 0, 3);
                due("never open", x.breaker(0, 0), 0);
            }
        }
    }

    private static void waits() {
        AnswerDoor x = brittle(1, 0);
        breakerIs("WAIT 1", x, 0, 1, 0, 2);
        due("open", ask(x, "{0}", 0, 0, 0, 9), 1);
        answer("open", x, 0, 4);
        x.pass(1);
        breakerIs("WAIT 1 is over", x, 0, 2, 0, 2);
        x = brittle(99, 0);
        x.pass(98);
        breakerIs("WAIT 99", x, 0, 1, 0, 100);
        due("open", ask(x, "{0}", 0, 0, 0, 9), 1);
        answer("open", x, 0, 4);
        x.pass(1);
        breakerIs("WAIT 99 is over", x, 0, 2, 0, 100);
        no("0", x.helper(0, 1, 8, 8, 1, 0));
        no("100", x.helper(0, 1, 8, 8, 1, 100));
        breakerIs("as it was", x, 0, 2, 0, 100);
    }

    private static void spells() {
        AnswerDoor x = new AnswerDoor();
        due("none", x.count(6), 0);
        for (int s = 1; s <= 20; s++) {
            due("spell", x.down(s % 5, s, s), s);
            due("how many", x.count(6), s);
        }
        for (int h = 0; h < 5; h++) {
            due("the 21st", x.down(h, 21, 21), -1);
        }
        due("still 20", x.count(6), 20);
        x.pass(19);
        for (int tick = 19; tick <= 21; tick++) {
            due("ask", ask(x, "{0}", 0, 0, 0, 9), 1);
            call("the 20th alone", x, 0, 0, 0, tick, tick == 20 ? 1 : 0, 0);
        }
    }

    private static void spellTicks() {
        AnswerDoor x = new AnswerDoor();
        due("of three TICKS", x.down(0, 3, 5), 1);
        due("of one TICK", x.down(0, 7, 7), 2);
        due("of none", x.down(0, 9, 8), -1);
        due("of another HELPER", x.down(1, 0, 99), 3);
        x.pass(2);
        for (int tick = 2; tick <= 9; tick++) {
            due("ask", ask(x, "{0}", 0, 0, 0, 9), 1);
            boolean isDown = tick >= 3 && tick <= 5 || tick == 7;
            call("made at " + tick, x, 0, 0, 0, tick, isDown ? 1 : 0, 0);
            answer("made at " + tick, x, 0, isDown ? 3 : 2);
        }
    }

    private static void types() {
        AnswerDoor x = new AnswerDoor();
        for (int t = 0; t < 6; t++) {
            x.thing(t, 0, true);
            int now = x.count(0);
            due("PRICE at first", cost(x, "{0}", t), 1);
            due("ask", ask(x, "{0}", 0, t, 0, 9), 0);
            call("HELPER at first", x, 0, 0, t, now, 0, 0);
            due("LIFE at first", x.kept(t, 0), -1);
            yes("taken", x.type(t, t % 5, t + 4, 100 * t));
        }
        no("-1", x.type(-1, 0, 1, 0));
        no("6", x.type(6, 0, 1, 0));
        for (int t = 0; t < 6; t++) {
            int now = x.count(0);
            due("its PRICE", cost(x, "{0}", t), t + 4);
            due("ask", ask(x, "{0}", 0, t, 0, 9), 0);
            call("its HELPER", x, 0, t % 5, t, now, 0, 0);
            due("its LIFE", x.kept(t, 0), t == 0 ? -1 : now + 1 + 100 * t);
        }
        due("cost of -1", x.cost(-1), -1);
        due("cost of 6", x.cost(6), -1);
    }

    private static void price() {
        AnswerDoor x = new AnswerDoor();
        for (int price = 1; price <= 9; price++) {
            yes("taken", x.type(3, 0, price, 0));
            due("cost", cost(x, "{0}", 3), price);
        }
        no("0", x.type(3, 0, 0, 0));
        no("10", x.type(3, 0, 10, 0));
        due("as it was", cost(x, "{0}", 3), 9);
    }

    private static void life() {
        for (int life : new int[] {0, 1, 2, 998, 999}) {
            AnswerDoor x = new AnswerDoor();
            yes("taken", x.type(3, 0, 1, life));
            no("-1", x.type(3, 0, 1, -1));
            no("1000", x.type(3, 0, 1, 1000));
            x.thing(3, 0, true);
            due("comes at 1", ask(x, "{0}", 0, 3, 0, 9), 0);
            due("kept", x.kept(3, 0), life == 0 ? -1 : 1 + life);
            if (life > 1) {
                x.pass(life - 1);
                due("in its last TICK", x.kept(3, 0), 1 + life);
            }
            if (life > 0) {
                due("known at once", ask(x, "{0}", 0, 3, 0, 9), 0);
                due("no call", x.count(2), 0);
                x.pass(1);
            }
            due("over", x.kept(3, 0), -1);
            due("asked for", ask(x, "{0}", 0, 3, 0, 9), 0);
            due("a call", x.count(2), 1);
        }
    }

    private static void fieldsAtFirst() {
        for (int t = 0; t < 6; t++) {
            AnswerDoor x = new AnswerDoor();
            x.thing(t, 31, true);
            due("numbers all", cost(x, "{0123}", t), 1);
            due("ask", ask(x, "{0123}", 0, t, 31, 9), 0);
            answer("numbers all", x, 1, 0, 0, 0, 0);
            yes("FIELD 0", x.field(t, 0, 1, 0, 5, false));
            yes("FIELD 3", x.field(t, 3, 2, 0, 5, false));
            no("FIELD -1", x.field(t, -1, 1, 0, 5, false));
            no("FIELD 4", x.field(t, 4, 1, 0, 5, false));
            due("a REF", cost(x, "{0{1}12}", t), 2);
            due("a LIST", cost(x, "{123{1}}", t), 6);
            due("KEY and row at first", ask(x, "{0{1}123{1}}", 0, t, 31, 9), 1);
            answer("KEY and row at first", x, 1, 0, 2, 0, 0, 0);
        }
    }

    private static void kinds() {
        AnswerDoor x = new AnswerDoor();
        for (int kind = 0; kind <= 2; kind++) {
            yes("taken", x.field(0, 0, kind, 1, 3, false));
            no("-1", x.field(0, 0, -1, 1, 3, false));
            no("3", x.field(0, 0, 3, 1, 3, false));
            due("alone", cost(x, "{0}", 0), kind == 0 ? 1 : -2 - 9);
            due("with a NODE", cost(x, "{0{0}}", 0), kind == 0 ? -2 - 9 : kind == 1 ? 2 : 4);
        }
    }

    private static void most() {
        for (int most = 1; most <= 5; most++) {
            for (int has = 0; has <= 5; has++) {
                AnswerDoor x = new AnswerDoor();
                yes("taken", x.field(0, 1, 2, 1, most, false));
                no("0", x.field(0, 1, 2, 1, 0, false));
                no("6", x.field(0, 1, 2, 1, 6, false));
                due("cost", cost(x, "{1{0}}", 0), 1 + most);
                x.thing(0, 0, true);
                x.row(0, 0, 1, has, keys(9, 8, 7, 6, 5));
                int due = Math.min(most, has);
                due("ask", ask(x, "{1{0}}", 0, 0, 0, 9), due == 0 ? 0 : 1);
                due("how many", x.answer(1), due);
                due("numbers", x.count(3), 2 + 2 * due);
                due("asked for", x.count(4), 1 + due);
                for (int i = 0; i < due; i++) {
                    due("the first ones", x.call(1, 10 + i), 9 - i);
                }
            }
        }
    }

    private static void must() {
        AnswerDoor x = new AnswerDoor();
        x.thing(0, 0, true);
        for (int kind = 1; kind <= 2; kind++) {
            x.row(0, 0, 1, 1, 4);
            x.field(0, 1, kind, 1, 5, false);
            due("not MUST", ask(x, "{1{0}}", 0, 0, 0, 9), 1);
            due("not MUST", x.answer(0), 1);
            x.field(0, 1, kind, 1, 5, true);
            due("MUST", ask(x, "{1{0}}", 0, 0, 0, 9), 1);
            answer("MUST", x, 0, 6);
        }
        x.row(0, 0, 1, 0, 0);
        due("an empty LIST is not null", ask(x, "{1{0}}", 0, 0, 0, 9), 0);
        answer("an empty LIST", x, 1, 0);
        x.field(0, 1, 0, 1, 5, true);
        due("a number is never null", ask(x, "{1}", 0, 0, 0, 9), 0);
        answer("a number", x, 1, 0);
    }

    private static void things() {
        for (int t = 0; t < 6; t++) {
            AnswerDoor x = new AnswerDoor();
            for (int key = 0; key < 32; key++) {
                due("not there at first", ask(x, "{0}", 0, t, key, 9), 1);
                due("not there at first", x.answer(1), 2);
                yes("there", x.thing(t, key, true));
                yes("its number", x.number(t, key, 0, 100 * t + key));
            }
            no("KEY -1", x.thing(t, -1, true));
            no("KEY 32", x.thing(t, 32, true));
            for (int key = 0; key < 32; key++) {
                due("there", ask(x, "{0}", 0, t, key, 9), 0);
                due("its own number", x.answer(1), 100 * t + key);
            }
        }
        AnswerDoor x = new AnswerDoor();
        no("TYPE -1", x.thing(-1, 0, true));
        no("TYPE 6", x.thing(6, 0, true));
    }

    private static void numbers() {
        AnswerDoor x = new AnswerDoor();
        x.thing(2, 3, true);
        for (int f = 0; f < 4; f++) {
            for (int v : new int[] {-99999, -99998, -1, 0, 1, 99998, 99999}) {
                yes("taken", x.number(2, 3, f, v));
                no("-100000", x.number(2, 3, f, -100000));
                no("100000", x.number(2, 3, f, 100000));
                due("ask", ask(x, "{" + f + "}", 0, 2, 3, 9), 0);
                answer("as told", x, 1, v);
            }
        }
    }

    private static void keysOfThings() {
        AnswerDoor x = new AnswerDoor();
        x.thing(2, 3, true);
        x.field(2, 1, 1, 4, 5, false);
        for (int to = 0; to < 32; to++) {
            yes("taken", x.key(2, 3, 1, to));
            due("ask", ask(x, "{1{0}}", 0, 2, 3, 9), 1);
            due("its TYPE", x.call(1, 1), 4);
            due("its KEY", x.call(1, 10), to);
        }
        no("-2", x.key(2, 3, 1, -2));
        no("32", x.key(2, 3, 1, 32));
        due("ask", ask(x, "{1{0}}", 0, 2, 3, 9), 1);
        due("as it was", x.call(1, 10), 31);
        yes("NONE", x.key(2, 3, 1, -1));
        due("ask", ask(x, "{1{0}}", 0, 2, 3, 9), 1);
        answer("NONE", x, 1, 0, 2);
        due("no call for NONE", x.count(2), 1);
    }

    private static void rows() {
        int[] sixes = {0, 31, 1, 30, 16};
        for (int n = 0; n <= 5; n++) {
            // All the bits behind the n-th are once 0 and once 1.
            for (int rest = 0; rest >= -1; rest--) {
                AnswerDoor x = new AnswerDoor();
                x.thing(2, 3, true);
                x.field(2, 1, 2, 4, 5, false);
                int told = keys(sixes) & ~(-1 << (5 * n)) | rest << (5 * n);
                yes("taken", x.row(2, 3, 1, n, told));
                no("-1", x.row(2, 3, 1, -1, 0));
                no("6", x.row(2, 3, 1, 6, 0));
                due("ask", ask(x, "{1{0}}", 0, 2, 3, 9), n == 0 ? 0 : 1);
                due("how many", x.answer(1), n);
                due("KEYS", x.call(1, 3), n == 0 ? -1 : n);
                for (int i = 0; i < n; i++) {
                    due("KEY " + i, x.call(1, 10 + i), sixes[i]);
                }
            }
        }
    }

    private static void fieldHoldsThree() {
        AnswerDoor x = new AnswerDoor();
        x.thing(0, 0, true);
        x.thing(1, 5, true);
        x.thing(1, 6, true);
        x.number(1, 5, 0, 55);
        x.number(1, 6, 0, 66);
        x.number(0, 0, 2, 22);
        x.key(0, 0, 2, 5);
        x.row(0, 0, 2, 2, keys(6, 5));
        for (int times = 0; times < 2; times++) {
            x.field(0, 2, 0, 1, 5, false);
            due("as a number", ask(x, "{2}", 0, 0, 0, 9), 0);
            answer("as a number", x, 1, 22);
            x.field(0, 2, 1, 1, 5, false);
            due("as a REF", ask(x, "{2{0}}", 0, 0, 0, 9), 0);
            answer("as a REF", x, 1, 1, 55);
            x.field(0, 2, 2, 1, 5, false);
            due("as a LIST", ask(x, "{2{0}}", 0, 0, 0, 9), 0);
            answer("as a LIST", x, 1, 2, 1, 66, 1, 55);
            x.field(0, 2, 2, 1, 1, false);
            due("MOST 1", ask(x, "{2{0}}", 0, 0, 0, 9), 0);
            answer("MOST 1", x, 1, 1, 1, 66);
        }
    }

    private static void rights() {
        AnswerDoor x = new AnswerDoor();
        for (int t = 0; t < 6; t++) {
            x.thing(t, 0, true);
            for (int a = 0; a < 4; a++) {
                due("all at first", ask(x, "{0}", a, t, 0, 9), 0);
            }
        }
        for (int of = 0; of < 6; of++) {
            yes("one RIGHT", x.asker(2, 1 << of, 100, 10));
            for (int t = 0; t < 6; t++) {
                due("of one TYPE", ask(x, "{0}", 2, t, 0, 9), t == of ? 0 : 1);
                due("reason", x.answer(1), t == of ? 0 : 1);
            }
        }
        yes("none", x.asker(2, 0, 100, 10));
        due("none", ask(x, "{0}", 2, 5, 0, 9), 1);
        answer("none", x, 0, 1);
        no("-1", x.asker(2, -1, 100, 10));
        no("64", x.asker(2, 64, 100, 10));
        due("none still", ask(x, "{0}", 2, 5, 0, 9), 1);
        due("another ASKER's stay", ask(x, "{0}", 3, 5, 0, 9), 0);
    }

    private static void bucketAtFirst() {
        AnswerDoor x = new AnswerDoor();
        x.type(0, 0, 9, 0);
        x.field(0, 1, 2, 0, 5, false);
        for (int a = 0; a < 4; a++) {
            due("FULL at first", x.count(10 + a), 100);
        }
        due("count(9)", x.count(9), -1);
        due("count(14)", x.count(14), -1);
        // 54 of 100, without a TICK: by an ASKER without the RIGHT nothing is called.
        for (int a = 0; a < 4; a++) {
            x.asker(a, 0, 100, 10);
            due("paid", ask(x, "{1{0}}", a, 0, 0, 9), 1);
            due("it has", x.count(10 + a), 46);
        }
        for (int tick = 1; tick <= 7; tick++) {
            x.pass(1);
            for (int a = 0; a < 4; a++) {
                due("at TICK " + tick, x.count(10 + a), Math.min(100, 46 + 10 * tick));
            }
        }
    }

    private static void fillAtFirst() {
        AnswerDoor x = new AnswerDoor();
        x.helper(0, 5, 8, 8, 0, 1);
        x.type(0, 0, 9, 0);
        x.field(0, 1, 2, 0, 5, false);
        x.thing(0, 0, true);
        due("54 paid, five TICKS go by", ask(x, "{1{0}}", 3, 0, 0, 9), 0);
        due("FILL 10 at first", x.count(13), 46 + 50);
        x.asker(3, 63, 100, 1);
        due("54 paid, five TICKS go by", ask(x, "{1{0}}", 3, 0, 0, 9), 0);
        due("FILL 1", x.count(13), 42 + 5);
    }

    private static void fullAndFill() {
        AnswerDoor x = new AnswerDoor();
        x.helper(0, 9, 8, 8, 0, 1);
        yes("the least", x.asker(0, 63, 1, 0));
        due("the BUCKET has FULL at most", x.count(10), 1);
        due("paid", ask(x, "{0}", 0, 0, 0, 9), 1);
        due("empty", x.count(10), 0);
        due("FILL 0", x.count(0), 9);
        due("refused", ask(x, "{0}", 0, 0, 0, 9), 2);
        yes("the most", x.asker(1, 63, 500, 50));
        due("what it had", x.count(11), 100);
        x.pass(7);
        due("FILL 50", x.count(11), 450);
        x.pass(1);
        due("just FULL", x.count(11), 500);
        x.pass(1);
        due("FULL at most", x.count(11), 500);
        for (int[] bad : new int[][] {{0, 0}, {501, 0}, {1, -1}, {1, 51}}) {
            no("refused", x.asker(1, 63, bad[0], bad[1]));
        }
        due("as it was", x.count(11), 500);
        yes("just what it has", x.asker(1, 63, 500, 0));
        due("all of it", x.count(11), 500);
        yes("one less", x.asker(1, 63, 499, 0));
        due("FULL at most", x.count(11), 499);
        yes("more again", x.asker(1, 63, 500, 0));
        x.pass(1000);
        due("no FILL", x.count(11), 499);
        no("ASKER -1", x.asker(-1, 63, 1, 0));
        no("ASKER 4", x.asker(4, 63, 1, 0));
    }

    private static void helperCloses() {
        AnswerDoor x = brittle(5, 0);
        yes("while open", x.helper(0, 1, 8, 8, 1, 5));
        breakerIs("closed", x, 0, 0, 0, -1);
        due("a call again", ask(x, "{0}", 0, 0, 0, 9), 1);
        answer("a call again", x, 0, 2);
        x = brittle(5, 99);
        x.pass(5);
        breakerIs("to be tried", x, 0, 2, 0, 6);
        yes("while to be tried", x.helper(0, 1, 8, 8, 2, 5));
        breakerIs("closed", x, 0, 0, 0, -1);
        due("fails", ask(x, "{0}", 0, 0, 0, 9), 1);
        breakerIs("no try: it counts", x, 0, 0, 1, -1);
        yes("while closed", x.helper(0, 1, 8, 8, 2, 5));
        breakerIs("its count 0", x, 0, 0, 0, -1);
        due("fails", ask(x, "{0}", 0, 0, 0, 9), 1);
        yes("another HELPER", x.helper(1, 1, 8, 8, 2, 5));
        breakerIs("of this one alone", x, 0, 0, 1, -1);
        yes("to none", x.helper(0, 1, 8, 8, 0, 5));
        breakerIs("its count 0", x, 0, 0, 0, -1);
    }

    private static void downAtLast() {
        AnswerDoor x = new AnswerDoor();
        due("a TICK to itself", x.down(0, 7, 7), 1);
        due("to ahead of from", x.down(0, 7, 6), -1);
        due("a spell that is over", x.down(0, 0, 0), 2);
        due("the same once more", x.down(0, 7, 7), 3);
        due("largest", x.down(0, 0, Integer.MAX_VALUE), -1);
        due("smallest", x.down(0, Integer.MIN_VALUE, 0), -1);
        due("none of these", x.count(6), 3);
    }

    private static void typeKept() {
        AnswerDoor x = new AnswerDoor();
        for (int t = 1; t <= 2; t++) {
            x.type(t, 0, 1, 999);
            for (int key = 0; key < 32; key += 31) {
                x.thing(t, key, true);
                due("ask", ask(x, "{0}", 0, t, key, 9), 0);
            }
        }
        no("refused", x.type(1, 0, 1, 1000));
        due("KEPT", x.kept(1, 0), 1000);
        due("KEPT", x.kept(1, 31), 1001);
        yes("the same again", x.type(1, 0, 1, 999));
        due("KEY 0 goes", x.kept(1, 0), -1);
        due("KEY 31 goes", x.kept(1, 31), -1);
        due("of another TYPE", x.kept(2, 0), 1002);
        due("of another TYPE", x.kept(2, 31), 1003);
        due("asked for", ask(x, "{0}", 0, 1, 0, 9), 0);
        due("a call", x.count(2), 1);
    }

    private static void anyKind() {
        AnswerDoor x = new AnswerDoor();
        for (int kind = 0; kind <= 2; kind++) {
            for (int of : new int[] {-1, 0, 5, 6}) {
                for (int most : new int[] {0, 1, 5, 6}) {
                    boolean fine = of >= 0 && of <= 5 && most >= 1 && most <= 5;
                    boolean got = x.field(1, 1, kind, of, most, true);
                    due("KIND " + kind + " of " + of + ", MOST " + most, got ? 1 : 0, fine ? 1 : 0);
                }
            }
        }
    }

    private static void fieldStays() {
        AnswerDoor x = new AnswerDoor();
        x.thing(0, 0, true);
        x.type(0, 0, 1, 50);
        due("ask", ask(x, "{0}", 0, 0, 0, 9), 0);
        yes("a FIELD is told anew", x.field(0, 0, 1, 3, 5, false));
        due("what is KEPT stays", x.kept(0, 0), 51);
        due("and is as the FIELD is now", ask(x, "{0{0}}", 0, 0, 0, 9), 1);
        answer("NONE", x, 1, 0, 2);
        due("no call", x.count(2), 0);
    }

    private static void thingKept() {
        AnswerDoor x = new AnswerDoor();
        x.type(5, 0, 1, 50);
        no("not there, and isn't", x.thing(5, 31, false));
        yes("there", x.thing(5, 31, true));
        no("there, and is", x.thing(5, 31, true));
        due("ask", ask(x, "{0}", 0, 5, 31, 9), 0);
        no("no change", x.thing(5, 31, true));
        due("it stays KEPT", x.kept(5, 31), 51);
        yes("no more", x.thing(5, 31, false));
        due("it goes", x.kept(5, 31), -1);
        due("ask", ask(x, "{0}", 0, 5, 31, 9), 1);
        answer("not there", x, 0, 2);
        yes("there again", x.thing(5, 31, true));
        due("not KEPT of old", x.kept(5, 31), -1);
    }

    private static void toldKept() {
        AnswerDoor x = new AnswerDoor();
        x.type(4, 0, 1, 50);
        x.thing(4, 0, true);
        x.thing(4, 1, true);
        due("another one", ask(x, "{0}", 0, 4, 1, 9), 0);
        for (int how = 0; how < 3; how++) {
            due("ask", ask(x, "{0}", 0, 4, 0, 9), 0);
            due("KEPT", x.kept(4, 0), 52 + how);
            no("refused", how == 0 ? x.number(4, 0, 0, 100000) : how == 1 ? x.key(4, 0, 0, 32) : x.row(4, 0, 0, 6, 0));
            due("refused", x.kept(4, 0), 52 + how);
            yes("as it was", how == 0 ? x.number(4, 0, 0, 0) : how == 1 ? x.key(4, 0, 0, -1) : x.row(4, 0, 0, 0, 0));
            due("it goes", x.kept(4, 0), -1);
            due("another one stays", x.kept(4, 1), 51);
        }
    }

    private static void toldWhileNotThere() {
        AnswerDoor x = new AnswerDoor();
        yes("number", x.number(4, 0, 0, 8));
        yes("key", x.key(4, 0, 1, 9));
        yes("row", x.row(4, 0, 2, 1, 10));
        x.field(4, 1, 1, 3, 5, false);
        x.field(4, 2, 2, 3, 5, false);
        due("not there", ask(x, "{0}", 0, 4, 0, 9), 1);
        answer("not there", x, 0, 2);
        x.thing(4, 0, true);
        due("there", ask(x, "{0 1{0} 2{0}}", 0, 4, 0, 9), 1);
        answer("as told", x, 1, 8, 0, 2, 1, 0, 2);
        call("as told", x, 1, 0, 3, 2, 0, 9, 10);
        x.thing(4, 0, false);
        x.thing(4, 0, true);
        due("there again", ask(x, "{0}", 0, 4, 0, 9), 0);
        answer("its FIELDS stay", x, 1, 8);
    }

    private static void pass() {
        AnswerDoor x = new AnswerDoor();
        due("0", x.pass(0), -1);
        due("1", x.pass(1), 1);
        due("1001", x.pass(1001), -1);
        due("1000", x.pass(1000), 1001);
        due("-1", x.pass(-1), -1);
        due("largest", x.pass(Integer.MAX_VALUE), -1);
        due("smallest", x.pass(Integer.MIN_VALUE), -1);
        due("NOW", x.count(0), 1001);
        x = lateBy(10);
        x.asker(0, 0, 500, 10);
        due("one beyond", x.pass(11), -1);
        due("NOW", x.count(0), 99990);
        due("no FILL", x.count(10), 100);
        due("just to the end", x.pass(10), 100000);
        due("FILL", x.count(10), 200);
        x = lateBy(1000);
        due("1000 to the end", x.pass(1000), 100000);
        x = lateBy(999);
        due("1000 beyond the end", x.pass(1000), -1);
    }

    private static void feed() {
        AnswerDoor x = new AnswerDoor();
        due("empty", x.count(1), 0);
        for (int i = 1; i <= 10; i++) {
            due("feed", x.feed(0, 0, 0, 0, 0), 20 * i);
            due("how many", x.count(1), 20 * i);
        }
        due("more than 200", x.feed(0, 0, 0, 0, 0), -1);
        due("none comes", x.count(1), 200);
        due("one too many", x.end(181), 181);
        due("201", x.feed(0, 0, 0, 0, 0), -1);
        due("none comes", x.count(1), 181);
        due("just so", x.end(180), 180);
        due("200", x.feed(0, 0, 0, 0, 0), 200);
    }

    /** A text of twenty bytes, each in its place: a wrong one is a FAULT there. */
    private static void feedOrder() {
        String text = "{0 1 2 3 0 1       }";
        for (int at = 0; at < 20; at++) {
            AnswerDoor x = new AnswerDoor();
            tell(x, text.substring(0, at) + "\u00ff" + text.substring(at + 1));
            due("a byte 255 at " + at, x.cost(0), -2 - (1 + 4 * at));
            x.end(0);
            tell(x, text);
            due("the text", x.cost(0), 1);
        }
        AnswerDoor x = new AnswerDoor();
        due("as numbers", x.feed(0x7B302031, 0x20322033, 0x20302031, 0x20202020, 0x2020207D), 20);
        due("as numbers", x.cost(0), 1);
        due("the lowest first", x.end(0), 0);
        due("the lowest first", x.feed(0x3120307B, 0x33203220, 0x31203020, 0x20202020, 0x7D202020), 20);
        due("the lowest first", x.cost(0), -2 - 1);
    }

    private static void end() {
        AnswerDoor x = new AnswerDoor();
        due("of an empty TAPE", x.end(0), 0);
        due("more than none", x.end(1), -1);
        due("below 0", x.end(-1), -1);
        due("feed", x.feed(0x7B307D7D, 0, 0, 0, 0), 20);
        due("more than it has", x.end(21), -1);
        due("below 0", x.end(-1), -1);
        due("largest", x.end(Integer.MAX_VALUE), -1);
        due("smallest", x.end(Integer.MIN_VALUE), -1);
        due("nothing happens", x.count(1), 20);
        due("all", x.end(20), 20);
        due("all", x.count(1), 20);
        due("the first 4", x.end(4), 4);
        due("the first 4", x.cost(0), -2 - 13);
        due("the first 3", x.end(3), 3);
        due("the first 3", x.cost(0), 1);
        due("it has no more", x.end(4), -1);
        due("it has no more", x.count(1), 3);
        due("none", x.end(0), 0);
        due("none", x.cost(0), -2 - 1);
        due("behind none", x.feed(0x7B317D7D, 0, 0, 0, 0), 20);
    }

    private static void terms() {
        test("TICKS 0 to 100000; NOW (0 at first).", TellingEdges::ticks);
        test("HELPERS 0 to 4", TellingEdges::helpers);
        test("a DELAY (1 to 9; 1 at first)", TellingEdges::delay);
        test("a BATCH (1 to 8 keys a call; 8)", TellingEdges::batch);
        test("a RATE (1 to 8 calls in a TICK; 8)", TellingEdges::rate);
        test("a BREAKER of FAILS (0 to 9", TellingEdges::fails);
        test("0: none", TellingEdges::noBreaker);
        test("a WAIT (1 to 99; 10)", TellingEdges::waits);
        test("It is DOWN in spells (20 at most of all)", TellingEdges::spells);
        test("from a TICK to a TICK", TellingEdges::spellTicks);
        test("TYPES 0 to 5: each of a HELPER (0 at first)", TellingEdges::types);
        test("with a PRICE (1 to 9; 1)", TellingEdges::price);
        test("a LIFE (0 to 999; 0)", TellingEdges::life);
        test("FIELDS 0 to 3 of each", TellingEdges::fieldsAtFirst);
        test("a KIND (0 number, 1 REF, 2 LIST; number at first)", TellingEdges::kinds);
        test("of a LIST the MOST (1 to 5; 5)", TellingEdges::most);
        test("MUST or not (not at first)", TellingEdges::must);
        test("THINGS: of a TYPE a KEY 0 to 31: there or not (not at first)", TellingEdges::things);
        test("a number (-99999 to 99999; 0 at first)", TellingEdges::numbers);
        test("a KEY (NONE at first)", TellingEdges::keysOfThings);
        test("a row of up to 5 KEYS", TellingEdges::rows);
        test("A FIELD holds all three; its KIND tells which is meant, of a LIST the first KEYS of the row, MOST at most.",
            TellingEdges::fieldHoldsThree);
        test("ASKERS 0 to 3: RIGHTS (a bit for each TYPE; all at first)", TellingEdges::rights);
        test("a BUCKET: FULL (1 to 500; 100), FILL (0 to 50 a TICK; 10)", TellingEdges::fullAndFill);
        test("it has FULL at first, and FILL more with each TICK that goes by, at most FULL.",
            TellingEdges::bucketAtFirst);
        test("FILL more with each TICK that goes by", TellingEdges::fillAtFirst);
    }

    private static void promises() {
        test("All as at first; no THINGS.", TellingEdges::newObject);
        test("A HELPER's DELAY, BATCH, RATE, FAILS, WAIT from now on (its BREAKER is closed, its count 0): true",
            TellingEdges::helperCloses);
        test("NONE: 20, or something is not as told.", TellingEdges::downAtLast);
        test("A TYPE's HELPER, PRICE and LIFE from now on (what is KEPT of it goes)", TellingEdges::typeKept);
        test("(TYPE 0 to 5 and MOST 1 to 5 of any KIND)", TellingEdges::anyKind);
        test("A FIELD's KIND, TYPE, MOST, MUST from now on", TellingEdges::fieldStays);
        test("A THING is there or not; if that changes anything what is KEPT of it goes: whether it does.",
            TellingEdges::thingKept);
        test("what is KEPT of it goes: true; false, and nothing happens, for others.", TellingEdges::toldKept);
        test("A number of a THING (there or not) is told", TellingEdges::toldWhileNotThere);
        test("So many TICKS (1 to 1000) go by: NOW; NONE, and nothing happens, for others, or beyond 100000.",
            TellingEdges::pass);
        test("how many it has; NONE, and none comes, if it would have more than 200.", TellingEdges::feed);
        test("Twenty bytes come behind the TAPE, of each number the highest first", TellingEdges::feedOrder);
        test("The TAPE has its first n bytes alone: n; NONE, and nothing happens, if it has not so many, or n is below 0.",
            TellingEdges::end);
    }

    public static void main(String[] args) {
        terms();
        promises();
        report();
    }
}
