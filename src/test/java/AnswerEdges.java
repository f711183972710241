/** The sentences of part III and of promises 17 to 21 that name an edge, each with a test of its own. */
public final class AnswerEdges extends Checks {
    /**
     * Of TYPE 0 to 5 the FIELDS 0 and 1 are numbers. Of TYPE 0 FIELD 2 is a LIST of TYPE 1 and 3 a REF of TYPE 2;
     * of TYPE 1 FIELD 3 is a REF of TYPE 2; of TYPE 2 FIELD 2 is a LIST of TYPE 1 and 3 a REF of TYPE 2. The TYPES
     * 0, 1, 2 are of the HELPERS 0, 1, 2; the KEYS 0 of TYPE 0 and 0 to 3 of TYPE 2 are there.
     */
    private static AnswerDoor houses() {
        AnswerDoor x = new AnswerDoor();
        x.field(0, 2, 2, 1, 5, false);
        x.field(0, 3, 1, 2, 5, false);
        x.field(1, 3, 1, 2, 5, false);
        x.field(2, 2, 2, 1, 5, false);
        x.field(2, 3, 1, 2, 5, false);
        x.type(1, 1, 1, 0);
        x.type(2, 2, 1, 0);
        x.thing(0, 0, true);
        for (int key = 0; key < 4; key++) {
            x.thing(2, key, true);
        }
        return x;
    }

    /** The HELPER's BREAKER of one opens at TICK 1 (NOW then), for so many TICKS. */
    private static void open(AnswerDoor x, int h, int type, int wait) {
        x.helper(h, 1, 8, 8, 1, wait);
        x.down(h, 0, 0);
        due("it fails", ask(x, "{0}", 3, type, 31, 9), 1);
        breakerIs("it opens", x, h, 1, 0, 1 + wait);
    }

    // ---- how it is NEEDED and asked for

    /** An ASK for 178 THINGS, a call a TICK, of which the last two would come back at its 201st and 202nd TICK. */
    private static AnswerDoor slow() {
        AnswerDoor x = new AnswerDoor();
        x.asker(0, 63, 500, 50);
        x.helper(0, 9, 1, 1, 0, 1);
        x.field(4, 1, 1, 0, 5, false);
        x.thing(4, 31, true);
        x.key(4, 31, 1, 0);
        for (int f = 0; f < 4; f++) {
            x.field(0, f, 2, f, 5, false);
        }
        x.field(1, 0, 1, 4, 5, false);
        x.field(2, 0, 2, 5, 5, false);
        for (int key = 0; key <= 30; key++) {
            x.thing(0, key, true);
            for (int f = 0; f < 4; f++) {
                x.row(0, key, f, 5, fiveFrom(5 * key + 1));
            }
        }
        for (int key = 6; key <= 30; key++) {
            x.thing(1, key, true);
            x.key(1, key, 0, key - 6);
        }
        for (int key = 1; key <= 5; key++) {
            x.thing(2, key, true);
            x.row(2, key, 0, 5, fiveFrom(5 * (key - 1)));
        }
        x.pass(10);
        return x;
    }

    private static void twoHundredTicks() {
        String text = "{1{0{0{1{1}2{1}3{1}}1{0{0}}}2{0{0}}}}";
        AnswerDoor x = slow();
        due("cost", cost(x, text, 4), 487);
        due("200 TICKS", ask(x, text, 0, 4, 31, 200), 1);
        due("NOW", x.count(0), 210);
        due("asked for", x.count(4), 178);
        due("calls", x.count(2), 178);
        due("the first", x.call(0, 2), 10);
        due("the last", x.call(177, 2), 203);
        due("back at the end", x.call(175, 4), 0);
        due("a TICK too late", x.call(176, 4), 2);
        due("two TICKS too late", x.call(177, 4), 2);
        x = slow();
        due("199 TICKS", ask(x, text, 0, 4, 31, 199), 1);
        due("NOW", x.count(0), 209);
        due("a TICK too late", x.call(175, 4), 2);
        x = slow();
        x.helper(0, 8, 1, 1, 0, 1);
        due("a DELAY less", ask(x, text, 0, 4, 31, 200), 1);
        due("it ends ahead", x.count(0), 10 + 8 + 8 + 175 + 8);
        due("all came back", x.call(177, 4), 0);
    }

    private static void oneTick() {
        AnswerDoor x = houses();
        x.key(0, 0, 3, 0);
        due("0 TICKS", ask(x, "{03{0}}", 0, 0, 0, 0), -1);
        due("1 TICK", x.ask(0, 0, 0, 1), 1);
        answer("what came back then", x, 1, 0, 0, 5);
        due("NOW", x.count(0), 1);
        due("2 TICKS", ask(x, "{03{0}}", 0, 0, 0, 2), 0);
        answer("what came back then", x, 1, 0, 1, 0);
        due("NOW", x.count(0), 3);
    }

    private static void noneIsNotNeeded() {
        AnswerDoor x = houses();
        due("NONE", ask(x, "{3{0}}", 0, 0, 0, 9), 1);
        due("asked for", x.count(4), 1);
        due("no null THING", x.count(5), 0);
        due("NOW", x.count(0), 1);
        x.row(0, 0, 2, 0, 0);
        due("an empty LIST", ask(x, "{2{0}}", 0, 0, 0, 9), 0);
        due("asked for", x.count(4), 1);
        due("NOW", x.count(0), 2);
    }

    private static void orderOfFields() {
        AnswerDoor x = houses();
        x.field(0, 3, 2, 1, 5, false);
        x.row(0, 0, 2, 3, keys(9, 4, 7));
        x.row(0, 0, 3, 3, keys(8, 4, 3));
        due("ask", ask(x, "{2{0}3{0}}", 0, 0, 0, 9), 1);
        call("2 ahead of 3", x, 1, 1, 1, 1, 0, 9, 4, 7, 8, 3);
        due("ask", ask(x, "{3{0}2{0}}", 0, 0, 0, 9), 1);
        call("3 ahead of 2", x, 1, 1, 1, 3, 0, 8, 4, 3, 9, 7);
        due("ask", ask(x, "{3{0}2{0}3{1}}", 0, 0, 0, 9), 1);
        call("each once", x, 1, 1, 1, 5, 0, 8, 4, 3, 9, 7);
    }

    /** (2, 0) is NEEDED by the NODE behind first, but gone on with by the one ahead of it first. */
    private static void alongTheText() {
        AnswerDoor x = new AnswerDoor();
        x.field(0, 2, 1, 1, 5, false);
        x.field(0, 3, 1, 2, 5, false);
        x.field(1, 3, 1, 2, 5, false);
        x.field(2, 0, 1, 3, 5, false);
        x.field(2, 1, 1, 3, 5, false);
        for (int t = 0; t < 3; t++) {
            x.thing(t, 0, true);
        }
        x.key(0, 0, 2, 0);
        x.key(0, 0, 3, 0);
        x.key(1, 0, 3, 0);
        x.key(2, 0, 0, 10);
        x.key(2, 0, 1, 11);
        due("ask", ask(x, "{2{3{1{0}}}3{0{0}}}", 0, 0, 0, 9), 1);
        call("the first NODE's", x, 1, 0, 1, 1, 0, 0);
        call("NEEDED by both", x, 2, 0, 2, 1, 0, 0);
        call("along the text", x, 3, 0, 3, 2, 0, 11, 10);
        answer("by each NODE its own", x, 1, 1, 1, 0, 2, 1, 0, 2);
    }

    private static void withoutTheRight() {
        AnswerDoor x = houses();
        x.type(1, 1, 1, 99);
        x.thing(1, 5, true);
        due("KEPT", ask(x, "{0}", 0, 1, 5, 9), 0);
        x.row(0, 0, 2, 2, keys(5, 6));
        x.asker(1, 61, 100, 0);
        due("ask", ask(x, "{2{0}}", 1, 0, 0, 9), 1);
        answer("KEPT or not", x, 1, 2, 0, 1, 0, 1);
        due("not asked for", x.count(4), 1);
        due("nulls", x.count(5), 2);
        due("at once", x.count(0), 2);
        due("the THING asked for", ask(x, "{0}", 1, 1, 5, 9), 1);
        answer("the THING asked for", x, 0, 1);
        due("no TICK", x.count(0), 2);
        due("paid all the same", x.count(11), 100 - 6 - 1);
        due("another ASKER", ask(x, "{0}", 0, 1, 5, 9), 0);
    }

    /** (1, 5) is KEPT up to TICK 4: KNOWN at once in TICK 3, asked for in TICK 4. */
    private static void lifeIsOver() {
        for (int delay = 2; delay <= 3; delay++) {
            AnswerDoor x = houses();
            x.type(1, 1, 1, 3);
            x.thing(1, 5, true);
            x.row(0, 0, 2, 1, 5);
            due("KEPT", ask(x, "{0}", 0, 1, 5, 9), 0);
            due("up to", x.kept(1, 5), 4);
            x.helper(0, delay, 8, 8, 0, 1);
            due("ask", ask(x, "{2{0}}", 0, 0, 0, 9), 0);
            due("asked for", x.count(4), delay == 2 ? 1 : 2);
            due("NOW", x.count(0), delay == 2 ? 3 : 5);
            due("KEPT up to", x.kept(1, 5), delay == 2 ? 4 : 8);
        }
    }

    /** What was KNOWN in an ASK is so up to its end: its LIFE is over, or was 0, as it is NEEDED again. */
    private static void knownToTheEnd() {
        for (int life = 0; life <= 1; life++) {
            AnswerDoor x = houses();
            x.type(1, 1, 1, life);
            x.thing(1, 5, true);
            x.number(1, 5, 0, 55);
            x.row(0, 0, 2, 1, 5);
            x.key(0, 0, 3, 0);
            x.helper(2, 9, 8, 8, 0, 1);
            x.row(2, 0, 2, 1, 5);
            due("ask", ask(x, "{2{0}3{2{0}}}", 0, 0, 0, 50), 0);
            answer("twice", x, 1, 1, 1, 55, 1, 1, 1, 55);
            due("asked for once", x.count(4), 3);
            due("NOW", x.count(0), 10);
            due("KEPT no more", x.kept(1, 5), -1);
        }
    }

    private static void onceInAll() {
        AnswerDoor x = houses();
        x.row(0, 0, 2, 5, keys(7, 7, 8, 7, 8));
        x.key(0, 0, 3, 0);
        x.row(2, 0, 2, 2, keys(8, 9));
        due("ask", ask(x, "{2{0}2{1}3{2{0}}}", 0, 0, 0, 50), 1);
        due("asked for", x.count(4), 5);
        call("each once", x, 1, 1, 1, 1, 0, 7, 8);
        call("one null already is not asked again", x, 3, 1, 1, 2, 0, 9);
        due("calls", x.count(2), 4);
        due("nulls, each once", x.count(5), 3);
        answer("but told each time", x, 1, 5, 0, 2, 0, 2, 0, 2, 0, 2, 0, 2, 5, 0, 2, 0, 2, 0, 2, 0, 2, 0, 2,
            1, 2, 0, 2, 0, 2);
    }

    private static final String ALL_THINGS = "{1{1{0}2{0}3{0}}2{1{0}2{0}3{0}}3{1{0}2{0}3{1{0}2{0}3{0}}}}";

    /** The TYPES that the FIELDS 1 to 3 of the TYPES 0 to 4 lead to: of TYPE 4 REFS, of the others LISTS. */
    private static final int[][] LEADS_TO = {{1, 2, 3}, {0, 0, 1}, {1, 2, 2}, {3, 3, 4}, {4, 5, 5}};

    /** KEY 0 of TYPE 0 leads to five of the TYPES 1, 2, 3 each, and these to all THINGS but those behind TYPE 4. */
    private static AnswerDoor allThings(int batch) {
        AnswerDoor x = new AnswerDoor();
        x.helper(0, 1, batch, 8, 0, 1);
        x.asker(0, 63, 500, 50);
        boolean[] met = new boolean[6];
        for (int t = 0; t < 5; t++) {
            for (int f = 1; f <= 3; f++) {
                int of = LEADS_TO[t][f - 1];
                x.field(t, f, t == 4 ? 1 : 2, of, 5, false);
                for (int key = 0; key < (t == 0 ? 1 : t == 4 ? 25 : 5); key++) {
                    if (f == 1) {
                        x.thing(t, key, true);
                    }
                    // The first 25 KEYS by the first FIELD that leads there, the others by the second.
                    if (t == 4) {
                        x.key(t, key, f, f == 2 ? key : 25 + key % 7);
                    } else {
                        x.row(t, key, f, 5, fiveFrom(met[of] ? 25 + 5 * key : 5 * key));
                    }
                }
                met[of] = t > 0;
            }
        }
        x.pass(8);
        return x;
    }

    private static void allAtOnce() {
        AnswerDoor x = allThings(1);
        due("ask", ask(x, ALL_THINGS, 0, 0, 0, 200), 1);
        due("all KEYS of all TYPES", x.count(4), 6 * 32);
        due("a call each", x.count(2), 6 * 32);
        due("the last one's KEYS", x.call(191, 3), 1);
        due("the last one came back", x.call(191, 4), 0);
        due("no more", x.call(192, 0), -1);
        due("not there", x.count(5), 6 * 32 - 1 - 15 - 25);
        x = allThings(8);
        due("ask", ask(x, ALL_THINGS, 0, 0, 0, 200), 1);
        due("all KEYS of all TYPES", x.count(4), 6 * 32);
        boolean[] seen = new boolean[6 * 32];
        int calls = x.count(2);
        for (int k = 0; k < calls; k++) {
            int type = x.call(k, 1);
            int keys = x.call(k, 3);
            for (int i = 0; i < keys; i++) {
                int id = type * 32 + x.call(k, 10 + i);
                no("asked for before", seen[id]);
                seen[id] = true;
            }
        }
        for (int id = 0; id < seen.length; id++) {
            yes("asked for: " + id, seen[id]);
        }
    }

    /** The same with calls that are on their way as the time is over, and with a BREAKER that opens late. */
    private static void allAtOnceNotAllKnown() {
        AnswerDoor x = allThings(1);
        x.helper(0, 9, 1, 8, 0, 1);
        due("ask", ask(x, ALL_THINGS, 0, 0, 0, 200), 1);
        int ticks = x.count(0) - 8;
        x = allThings(1);
        x.helper(0, 9, 1, 8, 0, 1);
        due("ask", ask(x, ALL_THINGS, 0, 0, 0, ticks - 1), 1);
        due("all KEYS of all TYPES", x.count(4), 6 * 32);
        due("a call each", x.count(2), 6 * 32);
        due("the last one is forgotten", x.call(191, 4), 2);
        x = allThings(1);
        x.helper(0, 1, 1, 8, 1, 9);
        x.down(0, 30, 30);
        due("ask", ask(x, ALL_THINGS, 0, 0, 0, 200), 1);
        due("all KEYS of all TYPES", x.count(4), 6 * 32);
        due("calls ahead of its opening", x.count(2), 177);
        due("the last one FAILED", x.call(176, 4), 1);
        breakerIs("opened by it", x, 0, 1, 0, 40);
        due("NOW", x.count(0), 31);
    }

    private static void knownAtOnce() {
        AnswerDoor x = houses();
        x.type(1, 1, 1, 99);
        x.row(0, 0, 2, 2, keys(5, 6));
        for (int key = 5; key <= 6; key++) {
            x.thing(1, key, true);
            x.key(1, key, 3, key + 2);
        }
        x.key(0, 0, 3, 9);
        due("ask", ask(x, "{2{3{0}}3{0}}", 0, 0, 0, 9), 1);
        call("as nothing is KEPT", x, 2, 2, 2, 1, 0, 9);
        call("as nothing is KEPT", x, 3, 2, 2, 2, 0, 7, 8);
        due("ask", ask(x, "{2{3{0}}3{0}}", 0, 0, 0, 9), 1);
        call("ahead of what is NEEDED behind", x, 1, 2, 2, 4, 0, 7, 8, 9);
        x.thing(1, 6, false);
        due("ask", ask(x, "{2{3{0}}3{0}}", 0, 0, 0, 9), 1);
        call("the KEPT one alone", x, 2, 2, 2, 6, 0, 7, 9);
    }

    /** Each KEY of a call is gone on with whole, through what is KEPT, ahead of the next one. */
    private static void keyByKey() {
        AnswerDoor x = houses();
        x.type(2, 2, 1, 99);
        x.type(3, 3, 1, 0);
        x.field(2, 3, 1, 3, 5, false);
        x.field(1, 2, 1, 3, 5, false);
        x.key(2, 0, 3, 20);
        x.key(2, 1, 3, 21);
        for (int key = 0; key < 2; key++) {
            due("KEPT", ask(x, "{0}", 1, 2, key, 9), 0);
        }
        x.row(0, 0, 2, 2, keys(6, 5));
        x.thing(1, 5, true);
        x.thing(1, 6, true);
        x.key(1, 5, 3, 0);
        x.key(1, 5, 2, 19);
        x.key(1, 6, 3, 1);
        due("ask", ask(x, "{2{3{3{0}}2{0}}}", 0, 0, 0, 9), 1);
        call("in the order NEEDED", x, 1, 1, 1, 3, 0, 6, 5);
        call("all that follows of 6 ahead of 5, in 5 what is KEPT ahead of what is behind", x, 2, 3, 3, 4, 0, 21, 20, 19);
    }

    // ---- how calls come back

    /** A call of DELAY 3 made in TICK 1 and one of DELAY 1 made in TICK 3 come back in TICK 4. */
    private static void backInOrder() {
        AnswerDoor x = houses();
        x.helper(2, 3, 8, 8, 0, 1);
        x.helper(0, 1, 8, 8, 0, 1);
        x.field(0, 1, 1, 3, 5, false);
        x.field(3, 1, 1, 4, 5, false);
        x.field(4, 1, 1, 5, 5, false);
        x.field(5, 3, 1, 1, 5, false);
        x.field(2, 3, 1, 1, 5, false);
        for (int t = 3; t <= 5; t++) {
            x.thing(t, 0, true);
        }
        x.key(0, 0, 1, 0);
        x.key(0, 0, 3, 0);
        x.key(3, 0, 1, 0);
        x.key(4, 0, 1, 0);
        x.key(5, 0, 3, 12);
        x.key(2, 0, 3, 11);
        due("ask", ask(x, "{1{1{1{3{0}}}}3{3{0}}}", 0, 0, 0, 50), 1);
        call("made first", x, 2, 2, 2, 1, 0, 0);
        call("made last", x, 4, 0, 5, 3, 0, 0);
        call("back in the order in which they were made", x, 5, 1, 1, 4, 0, 11, 12);
    }

    private static void madeWhileDown() {
        AnswerDoor x = new AnswerDoor();
        x.thing(0, 0, true);
        x.helper(0, 3, 8, 8, 0, 1);
        x.down(0, 10, 12);
        x.pass(7);
        due("made ahead, back in its first TICK", ask(x, "{0}", 0, 0, 0, 9), 0);
        due("made in its first TICK", ask(x, "{0}", 0, 0, 0, 9), 1);
        answer("made in its first TICK", x, 0, 3);
        due("back behind it all the same", x.count(0), 13);
        call("FAILED", x, 0, 0, 0, 10, 1, 0);
        due("made behind it", ask(x, "{0}", 0, 0, 0, 9), 0);
        x = new AnswerDoor();
        x.thing(0, 0, true);
        x.helper(0, 3, 8, 8, 0, 1);
        x.down(0, 10, 12);
        x.pass(9);
        due("made in the TICK ahead, back in its last", ask(x, "{0}", 0, 0, 0, 9), 0);
        due("made in its last TICK", ask(x, "{0}", 0, 0, 0, 9), 1);
        answer("made in its last TICK", x, 0, 3);
        due("NOW", x.count(0), 15);
    }

    private static void keptOrNot() {
        AnswerDoor x = new AnswerDoor();
        x.type(0, 0, 1, 5);
        x.thing(0, 0, true);
        x.down(0, 1, 1);
        due("it comes", ask(x, "{0}", 0, 0, 0, 9), 0);
        due("up to its TICK of coming + LIFE", x.kept(0, 0), 6);
        due("FAILED", ask(x, "{0}", 0, 0, 1, 9), 1);
        due("is not KEPT", x.kept(0, 1), -1);
        due("not there", ask(x, "{0}", 0, 0, 2, 9), 1);
        answer("not there", x, 0, 2);
        due("is not KEPT", x.kept(0, 2), -1);
        x.pass(2);
        due("in the last TICK", x.kept(0, 0), 6);
        x.pass(1);
        due("not in that TICK", x.kept(0, 0), -1);
        x.helper(0, 9, 8, 8, 0, 1);
        due("late", ask(x, "{0}", 0, 0, 0, 8), 1);
        due("one that never came is not KEPT", x.kept(0, 0), -1);
    }

    /** Asked for in the order (1, 0), (3, 0), (1, 1), (3, 1), (1, 2): both TYPES of HELPER 1. */
    private static AnswerDoor twoTypes(int batch, int rate) {
        AnswerDoor x = houses();
        x.helper(1, 1, batch, rate, 0, 1);
        x.type(3, 1, 1, 0);
        x.type(2, 0, 1, 99);
        x.field(2, 2, 2, 1, 5, false);
        x.field(2, 3, 2, 3, 5, false);
        x.field(0, 2, 2, 2, 5, false);
        x.row(0, 0, 2, 3, keys(0, 1, 2));
        for (int key = 0; key < 3; key++) {
            x.row(2, key, 2, 1, key);
            x.row(2, key, 3, key < 2 ? 1 : 0, key);
        }
        return x;
    }

    private static void batchesByType() {
        String text = "{2{2{0}3{0}}}";
        AnswerDoor x = twoTypes(8, 8);
        due("ask", ask(x, text, 0, 0, 0, 9), 1);
        call("all of the first one's TYPE", x, 2, 1, 1, 2, 0, 0, 1, 2);
        call("all of the next one's TYPE", x, 3, 1, 3, 2, 0, 0, 1);
        due("NOW", x.count(0), 3);
        x = twoTypes(2, 8);
        due("ask", ask(x, text, 0, 0, 0, 9), 1);
        call("two of the first", x, 2, 1, 1, 2, 0, 0, 1);
        call("two of the first that is left", x, 3, 1, 3, 2, 0, 0, 1);
        call("the last", x, 4, 1, 1, 2, 0, 2);
        x = twoTypes(1, 2);
        due("ask", ask(x, text, 0, 0, 0, 9), 1);
        call("in their order", x, 2, 1, 1, 2, 0, 0);
        call("in their order", x, 3, 1, 3, 2, 0, 0);
        call("RATE 2", x, 4, 1, 1, 3, 0, 1);
        call("RATE 2", x, 5, 1, 3, 3, 0, 1);
        call("RATE 2", x, 6, 1, 1, 4, 0, 2);
        due("NOW", x.count(0), 5);
    }

    private static void helperByHelper() {
        AnswerDoor x = houses();
        x.type(1, 4, 1, 0);
        x.row(0, 0, 2, 1, 5);
        x.key(0, 0, 3, 6);
        due("ask", ask(x, "{2{0}3{0}}", 0, 0, 0, 9), 1);
        call("HELPER 2 ahead of HELPER 4", x, 1, 2, 2, 1, 0, 6);
        call("HELPER 4, NEEDED ahead", x, 2, 4, 1, 1, 0, 5);
    }

    // ---- BREAKERS

    /** (1, 1) of TICK 1 FAILS; (1, 2), (1, 3), (1, 4) are asked for in the TICKS 2, 3, 4. */
    private static AnswerDoor chain(int wait) {
        AnswerDoor x = houses();
        x.helper(1, 1, 8, 8, 1, wait);
        x.down(1, 1, 1);
        x.row(0, 0, 2, 1, 1);
        x.key(0, 0, 3, 0);
        for (int key = 0; key < 3; key++) {
            x.row(2, key, 2, 1, key + 2);
            x.key(2, key, 3, key + 1);
        }
        return x;
    }

    private static final String CHAIN = "{2{0}3{2{0}3{2{0}3{2{0}}}}}";

    private static void openFor() {
        AnswerDoor x = chain(2);
        due("ask", ask(x, CHAIN, 0, 0, 0, 50), 1);
        answer("open in two TICKS", x, 1, 1, 0, 3, 1, 1, 0, 4, 1, 1, 0, 4, 1, 1, 0, 2);
        call("tried in the TICK behind", x, 5, 1, 1, 4, 0, 4);
        due("calls", x.count(2), 6);
        breakerIs("closed", x, 1, 0, 0, -1);
        x = chain(1);
        due("ask", ask(x, CHAIN, 0, 0, 0, 50), 1);
        answer("open in one TICK", x, 1, 1, 0, 3, 1, 1, 0, 4, 1, 1, 0, 2, 1, 1, 0, 2);
        x = chain(3);
        due("ask", ask(x, CHAIN, 0, 0, 0, 50), 1);
        answer("open in three TICKS", x, 1, 1, 0, 3, 1, 1, 0, 4, 1, 1, 0, 4, 1, 1, 0, 4);
        due("NOW", x.count(0), 4);
        breakerIs("open", x, 1, 1, 0, 5);
    }

    /** In TICK 3, the first behind its being open, nothing is asked for; in TICK 4 it is. */
    private static void triedLater() {
        AnswerDoor x = chain(1);
        x.row(2, 1, 2, 0, 0);
        due("ask", ask(x, CHAIN, 0, 0, 0, 50), 1);
        answer("open in TICK 2, tried in TICK 4", x, 1, 1, 0, 3, 1, 1, 0, 4, 1, 0, 1, 1, 0, 2);
        call("tried as it is asked for", x, 5, 1, 1, 4, 0, 4);
        due("NOW", x.count(0), 5);
        breakerIs("closed", x, 1, 0, 0, -1);
    }

    private static void openAtOnce() {
        AnswerDoor x = houses();
        open(x, 1, 1, 5);
        x.row(0, 0, 2, 5, keys(1, 2, 3, 4, 5));
        due("all that waits", ask(x, "{2{0}}", 0, 0, 0, 50), 1);
        answer("all that waits", x, 1, 5, 0, 4, 0, 4, 0, 4, 0, 4, 0, 4);
        due("asked for", x.count(4), 6);
        due("nulls", x.count(5), 5);
        due("no call of it", x.count(2), 1);
        due("it ends then", x.count(0), 2);
        breakerIs("as it was", x, 1, 1, 0, 6);
        due("another HELPER's", ask(x, "{0}", 0, 2, 0, 9), 0);
        x.type(4, 1, 1, 0);
        due("another TYPE of it", ask(x, "{0}", 0, 4, 0, 9), 1);
        answer("another TYPE of it", x, 0, 4);
        x.asker(1, 0, 9, 0);
        due("without the RIGHT", ask(x, "{0}", 1, 1, 0, 9), 1);
        answer("without the RIGHT", x, 0, 1);
    }

    private static void keptWhileOpen() {
        AnswerDoor x = new AnswerDoor();
        x.type(0, 0, 1, 99);
        x.thing(0, 0, true);
        due("KEPT", ask(x, "{0}", 0, 0, 0, 9), 0);
        x.helper(0, 1, 8, 8, 1, 50);
        x.down(0, 1, 1);
        due("it opens", ask(x, "{0}", 0, 0, 1, 9), 1);
        due("what is KEPT is KNOWN", ask(x, "{0}", 0, 0, 0, 9), 0);
        due("what is not is null", ask(x, "{0}", 0, 0, 1, 9), 1);
        answer("what is not is null", x, 0, 4);
    }

    /**
     * HELPER 1 (DELAY 4, a KEY a call, a call a TICK, FAILS 1, WAIT 1) is asked for the KEYS 1 to 9 from TICK 1 on
     * and for 11 to 13 from TICK 6 on: its call of TICK 1 FAILS, so it is open in TICK 5 and tried in TICK 6.
     */
    private static AnswerDoor tried() {
        AnswerDoor x = houses();
        x.helper(1, 4, 1, 1, 1, 1);
        x.helper(2, 5, 8, 8, 0, 1);
        x.field(0, 1, 2, 1, 5, false);
        x.row(0, 0, 2, 5, keys(1, 2, 3, 4, 5));
        x.row(0, 0, 1, 4, keys(6, 7, 8, 9));
        x.key(0, 0, 3, 0);
        x.row(2, 0, 2, 3, keys(11, 12, 13));
        x.down(1, 1, 1);
        x.down(1, 3, 3);
        return x;
    }

    private static final String TRIED = "{2{0}1{0}3{2{0}}}";

    private static void aheadOfItsOpening(AnswerDoor x) {
        call("FAILED: it opens", x, 1, 1, 1, 1, 1, 1);
        call("between", x, 2, 2, 2, 1, 0, 0);
        call("came back while to be tried", x, 3, 1, 1, 2, 0, 2);
        call("FAILED while tried", x, 4, 1, 1, 3, 1, 3);
        call("came back while tried", x, 5, 1, 1, 4, 0, 4);
    }

    private static void countNothing() {
        AnswerDoor x = tried();
        due("ask", ask(x, TRIED, 0, 0, 0, 99), 1);
        aheadOfItsOpening(x);
        call("one alone", x, 6, 1, 1, 6, 0, 11);
        call("behind its coming back", x, 7, 1, 1, 10, 0, 12);
        call("at its RATE", x, 8, 1, 1, 11, 0, 13);
        due("calls", x.count(2), 9);
        due("NOW", x.count(0), 15);
        breakerIs("closed", x, 1, 0, 0, -1);
        answer("all", x, 1, 5, 0, 3, 0, 2, 0, 3, 0, 2, 0, 4, 4, 0, 4, 0, 4, 0, 4, 0, 4, 1, 3, 0, 2, 0, 2, 0, 2);
    }

    private static void triedInVain() {
        AnswerDoor x = tried();
        x.down(1, 6, 6);
        due("ask", ask(x, TRIED, 0, 0, 0, 99), 1);
        aheadOfItsOpening(x);
        call("one alone", x, 6, 1, 1, 6, 1, 11);
        due("what is not in it is null", x.count(2), 7);
        due("in the TICK in which it comes back", x.count(0), 10);
        breakerIs("open again", x, 1, 1, 0, 11);
        answer("all", x, 1, 5, 0, 3, 0, 2, 0, 3, 0, 2, 0, 4, 4, 0, 4, 0, 4, 0, 4, 0, 4, 1, 3, 0, 3, 0, 4, 0, 4);
        x.pass(1);
        breakerIs("to be tried again", x, 1, 2, 0, 11);
    }

    private static void triedTooLate() {
        AnswerDoor x = tried();
        due("ask", ask(x, TRIED, 0, 0, 0, 9), 1);
        aheadOfItsOpening(x);
        call("forgotten", x, 6, 1, 1, 6, 2, 11);
        due("NOW", x.count(0), 9);
        breakerIs("as if it had FAILED", x, 1, 1, 0, 10);
        answer("all", x, 1, 5, 0, 3, 0, 2, 0, 3, 0, 2, 0, 4, 4, 0, 4, 0, 4, 0, 4, 0, 4, 1, 3, 0, 5, 0, 5, 0, 5);
        x = tried();
        due("back at the end", ask(x, TRIED, 0, 0, 0, 10), 1);
        call("in time", x, 6, 1, 1, 6, 0, 11);
        due("no call in the last TICK", x.count(2), 7);
        breakerIs("closed", x, 1, 0, 0, -1);
        x = tried();
        due("ahead of the try", ask(x, TRIED, 0, 0, 0, 6), 1);
        due("no try", x.count(2), 6);
        due("NOW", x.count(0), 6);
        breakerIs("to be tried", x, 1, 2, 0, 6);
        due("another ASK", ask(x, "{1{0}}", 0, 0, 0, 7), 1);
        call("tried then", x, 1, 1, 1, 7, 0, 6);
        call("what waited in the one ahead waits no more", x, 2, 1, 1, 11, 2, 7);
        due("calls", x.count(2), 4);
    }

    /** Call 0 was a try once; call 0 of a later ASK is none. */
    private static void forgottenIsNoTry() {
        AnswerDoor x = new AnswerDoor();
        x.helper(0, 3, 8, 8, 1, 1);
        x.down(0, 0, 0);
        due("it fails", ask(x, "{0}", 0, 0, 0, 9), 1);
        breakerIs("open", x, 0, 1, 0, 4);
        x.pass(1);
        due("tried", ask(x, "{0}", 0, 0, 0, 9), 1);
        breakerIs("closed", x, 0, 0, 0, -1);
        due("forgotten", ask(x, "{0}", 0, 0, 0, 2), 1);
        call("forgotten", x, 0, 0, 0, 7, 2, 0);
        breakerIs("it counts nothing", x, 0, 0, 0, -1);
    }

    private static void tryIsOneBatch() {
        AnswerDoor x = houses();
        open(x, 1, 1, 1);
        x.helper(1, 1, 2, 8, 1, 1);
        x.down(1, 1, 1);
        due("it opens again", ask(x, "{0}", 0, 1, 0, 9), 1);
        breakerIs("open", x, 1, 1, 0, 3);
        x.row(0, 0, 2, 5, keys(1, 2, 3, 4, 5));
        due("ask", ask(x, "{2{0}}", 0, 0, 0, 50), 1);
        call("BATCH at most", x, 1, 1, 1, 3, 0, 1, 2);
        call("then as before", x, 2, 1, 1, 4, 0, 3, 4);
        call("then as before", x, 3, 1, 1, 4, 0, 5);
        due("NOW", x.count(0), 5);
    }

    /** Calls of the TICKS 1, 2, 3, of which the second did not fail. */
    private static void oneBehindTheOther() {
        for (int good = 0; good <= 3; good++) {
            AnswerDoor x = houses();
            x.helper(1, 2, 1, 1, 2, 9);
            x.row(0, 0, 2, 3, keys(1, 2, 3));
            for (int tick = 1; tick <= 3; tick++) {
                if (tick != good) {
                    x.down(1, tick, tick);
                }
            }
            due("ask", ask(x, "{2{0}}", 0, 0, 0, 50), 1);
            due("NOW", x.count(0), 5);
            switch (good) {
                case 0:
                    // Open by the first two, as they come back in TICK 4; the third counts nothing.
                    breakerIs("all FAILED", x, 1, 1, 0, 13);
                    break;
                case 1:
                    breakerIs("the last two", x, 1, 1, 0, 14);
                    break;
                case 2:
                    breakerIs("anew with the second", x, 1, 0, 1, -1);
                    break;
                default:
                    breakerIs("the first two, the good one comes while open", x, 1, 1, 0, 13);
                    break;
            }
        }
    }

    private static void sameTick() {
        AnswerDoor x = houses();
        x.helper(1, 1, 1, 8, 2, 9);
        x.row(0, 0, 2, 5, keys(1, 2, 3, 4, 5));
        x.down(1, 1, 1);
        due("five FAILED at once", ask(x, "{2{0}}", 0, 0, 0, 50), 1);
        answer("five FAILED at once", x, 1, 5, 0, 3, 0, 3, 0, 3, 0, 3, 0, 3);
        breakerIs("open once", x, 1, 1, 0, 11);
    }

    private static void countGoesOn() {
        AnswerDoor x = new AnswerDoor();
        x.helper(0, 3, 8, 8, 2, 9);
        x.down(0, 0, 3);
        due("FAILED", ask(x, "{0}", 0, 0, 0, 9), 1);
        breakerIs("one", x, 0, 0, 1, -1);
        due("forgotten, made while DOWN", ask(x, "{0}", 0, 0, 0, 2), 1);
        breakerIs("it counts nothing", x, 0, 0, 1, -1);
        due("forgotten, made while not", ask(x, "{0}", 0, 0, 0, 2), 1);
        breakerIs("it begins nothing anew", x, 0, 0, 1, -1);
        x.pass(50);
        breakerIs("nor does time", x, 0, 0, 1, -1);
        x.down(0, 57, 57);
        due("NOW", x.count(0), 57);
        due("FAILED", ask(x, "{0}", 0, 0, 0, 9), 1);
        breakerIs("open by the second", x, 0, 1, 0, 69);
    }

    private static void toBeTried() {
        AnswerDoor x = new AnswerDoor();
        open(x, 0, 0, 10);
        x.pass(9);
        breakerIs("the last TICK", x, 0, 1, 0, 11);
        x.pass(1);
        breakerIs("behind it", x, 0, 2, 0, 11);
        x.pass(1000);
        breakerIs("long behind it", x, 0, 2, 0, 11);
        x.down(0, 1011, 1011);
        due("tried in vain", ask(x, "{0}", 0, 0, 0, 9), 1);
        answer("tried in vain", x, 0, 3);
        breakerIs("by one FAILED", x, 0, 1, 0, 1022);
        x.pass(10);
        due("tried", ask(x, "{0}", 0, 0, 0, 9), 1);
        answer("not there is not FAILED", x, 0, 2);
        breakerIs("closed", x, 0, 0, 0, -1);
    }

    // ---- how it ends

    private static void nothingWaits() {
        AnswerDoor x = houses();
        x.type(0, 0, 1, 99);
        due("ask", ask(x, "{0}", 0, 0, 0, 200), 0);
        due("as the call is back", x.count(0), 1);
        due("all KEPT", ask(x, "{0}", 0, 0, 0, 1), 0);
        due("in the same TICK", x.count(0), 1);
        due("no calls", x.count(2), 0);
        due("none asked for", x.count(4), 0);
        due("call(0, 0)", x.call(0, 0), -1);
        x.key(0, 0, 3, 0);
        x.helper(2, 9, 8, 8, 0, 1);
        due("with another behind", ask(x, "{3{0}}", 0, 0, 0, 10), 0);
        due("NOW", x.count(0), 11);
        due("with KEPT ahead of it", ask(x, "{3{0}}", 0, 0, 0, 9), 0);
        due("NOW", x.count(0), 20);
    }

    private static void endOfItsTicks() {
        AnswerDoor x = houses();
        x.type(2, 2, 1, 99);
        x.thing(2, 7, true);
        due("KEPT", ask(x, "{0}", 0, 2, 7, 9), 0);
        x.asker(1, 55, 100, 0);
        x.row(0, 0, 2, 2, keys(1, 2));
        x.key(0, 0, 3, 7);
        x.field(0, 1, 1, 2, 5, false);
        x.key(0, 0, 1, 8);
        x.field(0, 0, 1, 3, 5, false);
        x.key(0, 0, 0, 0);
        due("ask", ask(x, "{3{0}1{0}2{0}0{0}}", 1, 0, 0, 1), 1);
        answer("KNOWN at once, too late, too late, without the RIGHT", x,
            1, 1, 0, 0, 5, 2, 0, 5, 0, 5, 0, 1);
        due("asked for", x.count(4), 4);
        due("but not called", x.count(2), 1);
        due("nulls", x.count(5), 4);
        due("NOW", x.count(0), 2);
    }

    private static void lateWhileOpen() {
        AnswerDoor x = houses();
        open(x, 1, 1, 50);
        x.row(0, 0, 2, 1, 1);
        due("at the end of its TICKS", ask(x, "{2{0}}", 0, 0, 0, 1), 1);
        answer("no calls would be made then", x, 1, 1, 0, 5);
        due("a TICK more", ask(x, "{2{0}}", 0, 0, 0, 2), 1);
        answer("a TICK more", x, 1, 1, 0, 4);
        due("it ends ahead of its TICKS", x.count(0), 3);
    }

    private static void forgotten() {
        AnswerDoor x = houses();
        x.helper(1, 5, 1, 1, 1, 9);
        x.down(1, 0, 99);
        x.row(0, 0, 2, 3, keys(1, 2, 3));
        due("ask", ask(x, "{2{0}}", 0, 0, 0, 3), 1);
        call("forgotten", x, 1, 1, 1, 1, 2, 1);
        call("forgotten", x, 2, 1, 1, 2, 2, 2);
        due("calls", x.count(2), 3);
        answer("too late", x, 1, 3, 0, 5, 0, 5, 0, 5);
        x.pass(9);
        breakerIs("they come back never", x, 1, 0, 0, -1);
        due("a call stays as it was", x.call(1, 4), 2);
        due("asked for again", ask(x, "{0}", 0, 1, 1, 9), 1);
        call("a call of its own", x, 0, 1, 1, 12, 1, 1);
        breakerIs("it alone counts", x, 1, 1, 0, 26);
    }

    // ---- THE ANSWER

    private static void reasonOfItsOwn() {
        AnswerDoor x = houses();
        x.field(0, 3, 1, 2, 5, true);
        x.helper(0, 2, 8, 8, 0, 1);
        x.down(0, 50, 50);
        x.asker(1, 0, 9, 0);
        due("not there", ask(x, "{03{0}}", 0, 0, 9, 9), 1);
        answer("2, not 6", x, 0, 2);
        due("without the RIGHT", ask(x, "{03{0}}", 1, 0, 0, 9), 1);
        answer("1, not 6", x, 0, 1);
        due("too late", ask(x, "{03{0}}", 0, 0, 0, 1), 1);
        answer("5, not 6", x, 0, 5);
        x.pass(47);
        due("FAILED", ask(x, "{03{0}}", 0, 0, 0, 9), 1);
        answer("3, not 6", x, 0, 3);
        due("it lacks what it MUST have", ask(x, "{03{0}}", 0, 0, 0, 9), 1);
        answer("6", x, 0, 6);
        due("no THING is null", x.count(5), 0);
    }

    private static void mustHave() {
        AnswerDoor x = houses();
        x.thing(1, 1, true);
        x.thing(1, 2, true);
        x.field(0, 2, 2, 1, 5, true);
        x.field(1, 3, 1, 2, 5, true);
        x.row(0, 0, 2, 2, keys(1, 2));
        x.key(1, 1, 3, 0);
        x.key(1, 2, 3, 1);
        due("all there", ask(x, "{02{03{0}}1}", 0, 0, 0, 9), 0);
        answer("all there", x, 1, 0, 2, 1, 0, 1, 0, 1, 0, 1, 0, 0);
        x.key(1, 2, 3, 9);
        due("the last lacks one", ask(x, "{02{03{0}}1}", 0, 0, 0, 9), 1);
        answer("null by 6 for those that have it, too", x, 0, 6);
        due("the one that isn't there", x.count(5), 1);
        x.field(0, 2, 2, 1, 5, false);
        due("not MUST", ask(x, "{02{03{0}}1}", 0, 0, 0, 9), 1);
        answer("the others are told", x, 1, 0, 2, 1, 0, 1, 0, 0, 6, 0);
        due("MUST, but not told", ask(x, "{02{0}1}", 0, 0, 0, 9), 0);
        answer("MUST, but not told", x, 1, 0, 2, 1, 0, 1, 0, 0);
        due("by one NODE and not by another", ask(x, "{2{03{0}}2{0}}", 0, 0, 0, 9), 1);
        answer("by one NODE and not by another", x, 1, 2, 1, 0, 1, 0, 0, 6, 2, 1, 0, 1, 0);
        x.key(1, 2, 3, -1);
        due("NONE", ask(x, "{02{03{0}}1}", 0, 0, 0, 9), 1);
        answer("NONE", x, 1, 0, 2, 1, 0, 1, 0, 0, 6, 0);
        due("no THING is null", x.count(5), 0);
    }

    /** Each of five within one another MUST have the next, but for one: the last, not there, takes all up to it. */
    private static void mustThroughAll() {
        int[][] want = {{1, 0, 0, 6}, {1, 0, 1, 0, 0, 6}, {1, 0, 1, 0, 1, 0, 0, 6}, {1, 0, 1, 0, 1, 0, 1, 0, 0, 2},
            {0, 6}};
        for (int free = 0; free <= 4; free++) {
            AnswerDoor x = new AnswerDoor();
            for (int t = 0; t < 5; t++) {
                x.thing(t, 0, t < 4);
                x.key(t, 0, 3, 0);
                x.field(t, 3, 1, t + 1, 5, t != free);
            }
            due("ask", ask(x, "{03{03{03{03{0}}}}}", 0, 0, 0, 50), 1);
            answer("TYPE " + free + " need not have it", x, want[free]);
            due("one THING is not there", x.count(5), 1);
        }
    }

    private static void numbersOfAnswers() {
        AnswerDoor x = houses();
        x.number(0, 0, 0, -1);
        due("without", x.answer(0), -1);
        due("without", x.count(3), 0);
        due("ask", ask(x, "{0010}", 0, 0, 0, 9), 0);
        answer("-1 is a number of it, too", x, 1, -1, -1, 0, -1);
        for (int i : new int[] {-1, 5, Integer.MIN_VALUE, Integer.MAX_VALUE}) {
            due("answer(" + i + ")", x.answer(i), -1);
        }
        due("too dear", x.type(0, 0, 9, 0) && x.asker(1, 63, 8, 0) ? ask(x, "{0}", 1, 0, 0, 9) : 9, 2);
        due("a FAULT", ask(x, "}", 0, 0, 0, 9), -3);
        due("NONE", x.ask(9, 0, 0, 9), -1);
        answer("the latest one stays", x, 1, -1, -1, 0, -1);
        due("a shorter one", ask(x, "{1}", 0, 0, 0, 9), 0);
        answer("a shorter one", x, 1, 0);
    }

    private static void calls() {
        AnswerDoor x = houses();
        int[] wrong = {-1, 5, 6, 7, 8, 9, 18, 19, Integer.MIN_VALUE, Integer.MAX_VALUE};
        due("without", x.call(0, 0), -1);
        x.row(0, 0, 2, 5, keys(1, 2, 3, 4, 5));
        x.row(0, 0, 1, 3, keys(6, 7, 8));
        x.field(0, 1, 2, 1, 5, false);
        due("ask", ask(x, "{2{0}1{0}}", 0, 0, 0, 9), 1);
        call("eight KEYS", x, 1, 1, 1, 1, 0, 1, 2, 3, 4, 5, 6, 7, 8);
        for (int what : wrong) {
            due("another what, " + what, x.call(1, what), -1);
        }
        for (int k : new int[] {-1, 2, Integer.MIN_VALUE, Integer.MAX_VALUE}) {
            for (int what = 0; what < 12; what++) {
                due("call " + k, x.call(k, what), -1);
            }
        }
        due("one KEY", x.call(0, 11), -1);
        due("a FAULT", ask(x, "", 0, 0, 0, 9), -3);
        due("the latest that was answered", x.call(1, 3), 8);
        due("and how many", x.count(2), 2);
        x.asker(0, 0, 100, 0);
        due("answered without a call", ask(x, "{0}", 0, 0, 0, 9), 1);
        due("none", x.count(2), 0);
        due("none", x.call(0, 0), -1);
    }

    private static void breakers() {
        AnswerDoor x = new AnswerDoor();
        for (int h : new int[] {-1, 5, Integer.MIN_VALUE, Integer.MAX_VALUE}) {
            breakerIs("HELPER " + h, x, h, -1, -1, -1);
        }
        for (int what : new int[] {-1, 3, Integer.MIN_VALUE, Integer.MAX_VALUE}) {
            due("what " + what, x.breaker(0, what), -1);
        }
        for (int h = 0; h < 5; h++) {
            breakerIs("at first", x, h, 0, 0, -1);
        }
        open(x, 0, 0, 99);
        for (int h = 1; h < 5; h++) {
            breakerIs("of the others", x, h, 0, 0, -1);
        }
    }

    private static void kept() {
        AnswerDoor x = new AnswerDoor();
        x.type(0, 0, 1, 9);
        x.type(5, 0, 1, 9);
        for (int key : new int[] {0, 31}) {
            for (int t : new int[] {0, 5}) {
                x.thing(t, key, true);
                due("not asked for yet", x.kept(t, key), -1);
                int now = x.count(0);
                due("ask", ask(x, "{0}", 0, t, key, 9), 0);
                due("KEPT", x.kept(t, key), now + 10);
            }
        }
        int[][] bad = {{-1, 0}, {6, 0}, {0, -1}, {0, 32}, {5, 32}, {Integer.MIN_VALUE, 0}, {0, Integer.MAX_VALUE}};
        for (int[] b : bad) {
            due("kept(" + b[0] + ", " + b[1] + ")", x.kept(b[0], b[1]), -1);
        }
    }

    private static void counts() {
        AnswerDoor x = new AnswerDoor();
        for (int what : new int[] {-1, 7, 8, 9, 14, 15, Integer.MIN_VALUE, Integer.MAX_VALUE}) {
            due("count(" + what + ")", x.count(what), -1);
        }
        for (int what = 0; what <= 6; what++) {
            due("count(" + what + ")", x.count(what), 0);
        }
        for (int what = 10; what <= 13; what++) {
            due("count(" + what + ")", x.count(what), 100);
        }
    }

    private static void needed() {
        test("IT IS ANSWERED from NOW on, within so many TICKS (1 to 200).", AnswerEdges::twoHundredTicks);
        test("within so many TICKS (1 to 200)", AnswerEdges::oneTick);
        test("the THINGS that its REFS (not NONE) and LISTS lead to", AnswerEdges::noneIsNotNeeded);
        test("in the order of the FIELDS told, of a LIST in its order.", AnswerEdges::orderOfFields);
        test("for each NODE by which it was NEEDED (along the text)", AnswerEdges::alongTheText);
        test("without the RIGHT: null at once, reason 1", AnswerEdges::withoutTheRight);
        test("if it is KEPT (and its LIFE is not over): KNOWN at once", AnswerEdges::lifeIsOver);
        test("What the call tells is as it is in that ASK (nothing changes within it).", AnswerEdges::knownToTheEnd);
        test("else it is ASKED FOR, once in all, in the order in which it came to be NEEDED.",
            AnswerEdges::onceInAll);
        test("What is NEEDED (a TYPE and KEY)", AnswerEdges::allAtOnce);
        test("all that isn't KNOWN or null is null, reason 5; all that waits is null, reason 4: of all THINGS",
            AnswerEdges::allAtOnceNotAllKnown);
        test("What is KNOWN at once is gone on with at once, ahead of what is NEEDED behind it",
            AnswerEdges::knownAtOnce);
        test("what comes in a call: KEY by KEY in the call's order, each with all that follows of it at once.",
            AnswerEdges::keyByKey);
    }

    private static void called() {
        test("first calls come back that were made DELAY TICKS ago, in the order in which they were made",
            AnswerEdges::backInOrder);
        test("one made while the HELPER was DOWN has FAILED: its KEYS are null, reason 3",
            AnswerEdges::madeWhileDown);
        test("KEPT until its LIFE is over: up to TICK of coming + LIFE, not that TICK; LIFE 0: not",
            AnswerEdges::keptOrNot);
        test("of the first KEY that is ASKED FOR of one of its TYPES, and not in a call yet, with the next ones of that "
            + "TYPE, BATCH at most.", AnswerEdges::batchesByType);
        test("Then, HELPER by HELPER, calls are made, RATE at most in this TICK", AnswerEdges::helperByHelper);
        test("for WAIT TICKS from that TICK on", AnswerEdges::openFor);
        test("while it is open, what is ASKED FOR of it (all that waits as calls would be made) is null, reason 4",
            AnswerEdges::openAtOnce);
        test("what is ASKED FOR of it", AnswerEdges::keptWhileOpen);
        test("behind that one call alone is made", AnswerEdges::triedLater);
        test("FAILED ones of calls made ahead of its opening that come back while it is open, or tried, count nothing.",
            AnswerEdges::countNothing);
        test("if it FAILED the BREAKER is open again likewise, else closed.", AnswerEdges::triedInVain);
        test("behind that one call alone is made, until it comes back (what is not in it waits)",
            AnswerEdges::tryIsOneBatch);
        test("it OPENS when FAILS calls have FAILED one behind the other (as they come back)",
            AnswerEdges::oneBehindTheOther);
        test("when FAILS calls have FAILED one behind the other", AnswerEdges::sameTick);
        test("The count begins anew with each call that did not fail.", AnswerEdges::countGoesOn);
        test("0 closed, 1 open, 2 it is to be tried, or is tried", AnswerEdges::toBeTried);
    }

    private static void ended() {
        test("It ends in the TICK in which nothing is on its way and nothing waits (behind what the TICK does)",
            AnswerEdges::nothingWaits);
        test("as those TICKS have gone by, behind what comes back then, all that isn't KNOWN or null is null, reason 5",
            AnswerEdges::endOfItsTicks);
        test("all that isn't KNOWN or null is null, reason 5", AnswerEdges::lateWhileOpen);
        test("calls on their way are forgotten: they come back never, and count nothing", AnswerEdges::forgotten);
        test("a try is as if it had FAILED", AnswerEdges::triedTooLate);
        test("and count nothing", AnswerEdges::forgottenIsNoTry);
        test("A THING by a NODE: 0 and its reason, if it is null", AnswerEdges::reasonOfItsOwn);
        test("else, if a FIELD of the NODE that is MUST is null (a REF that is NONE: null, reason 2; a LIST with one that "
            + "is null), 0 and 6", AnswerEdges::mustHave);
        test("What is null by 6 is null for those that have it, too.", AnswerEdges::mustThroughAll);
    }

    private static void promises() {
        test("Number i of the latest answer; NONE without (a number of it may be that, too: see count(3)).",
            AnswerEdges::numbersOfAnswers);
        test("10 + i: KEY i of it. NONE without it, or for another what.", AnswerEdges::calls);
        test("1: FAILED ones counted (closed; else 0), 2: the first TICK behind its being open (NONE: closed).",
            AnswerEdges::breakers);
        test("The TICK up to which (not with it) a THING is KEPT; NONE: it is not, or that is over.",
            AnswerEdges::kept);
        test("10 + a: what an ASKER's BUCKET has. NONE for others.", AnswerEdges::counts);
    }

    public static void main(String[] args) {
        needed();
        called();
        ended();
        promises();
        report();
    }
}
