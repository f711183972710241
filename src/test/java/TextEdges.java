/** The sentences of part II and of promises 14 to 16 that name an edge, each with a test of its own. */
public final class TextEdges extends Checks {
    private static final int BYTE = 0;
    private static final int NODE = 1;
    private static final int FIELD = 2;

    /**
     * Of TYPE 0 the FIELDS 0 and 1 are numbers, 2 a LIST and 3 a REF, both of TYPE 0; of TYPE 1
     * FIELD 0 is a REF of TYPE 0, the others are numbers. ASKER 0 has 500.
     */
    private static AnswerDoor linked() {
        AnswerDoor x = new AnswerDoor();
        x.field(0, 2, 2, 0, 5, false);
        x.field(0, 3, 1, 0, 5, false);
        x.field(1, 0, 1, 0, 5, false);
        x.asker(0, 63, 500, 50);
        x.pass(10);
        return x;
    }

    private static int faultAt(int place, int kind) {
        return -2 - (1 + 4 * place + kind);
    }

    /** A text with a FAULT: cost() and ask() tell it alike, and no more comes of it. */
    private static void fault(String text, int place, int kind) {
        AnswerDoor x = linked();
        due("first ask", ask(x, "{0}", 1, 0, 9, 5), 1);
        due("cost of " + text, cost(x, text, 0), faultAt(place, kind));
        due("ask of " + text, ask(x, text, 0, 0, 0, 5), faultAt(place, kind));
        due("the TAPE is empty", x.count(1), 0);
        due("nothing is paid", x.count(10), 500);
        due("no TICK goes by", x.count(0), 11);
        due("dear", x.dear(), -1);
        answer("the latest answer", x, 0, 2);
        call("the latest calls", x, 0, 0, 0, 10, 0, 9);
    }

    private static void fine(String text, int cost) {
        AnswerDoor x = linked();
        due("cost of " + text, cost(x, text, 0), cost);
        int now = x.count(0);
        due("ask of " + text, ask(x, text, 0, 0, 0, 5), 1);
        due("the TAPE is empty", x.count(1), 0);
        due("paid", x.count(10), Math.min(500, 500 - cost + 50));
        due("it is asked", x.count(0), now + 1);
    }

    private static String times(String text, int n) {
        StringBuilder all = new StringBuilder();
        for (int i = 0; i < n; i++) {
            all.append(text);
        }
        return all.toString();
    }

    private static void length() {
        String text = "{" + times(" ", 97) + "0" + times(" ", 100) + "}";
        due("its bytes", text.length(), 200);
        fine(text, 1);
        fine("{0}", 1);
        fault(text.substring(0, 199), 199, BYTE);
        fault(text.substring(0, 199) + " ", 200, BYTE);
        AnswerDoor x = linked();
        tell(x, text);
        due("201 bytes", x.feed(0, 0, 0, 0, 0), -1);
    }

    private static void oneField() {
        fault("{}", 1, BYTE);
        fault("{ }", 2, BYTE);
        fault("{3{}}", 3, BYTE);
        fault("{0 3{0}2{ }}", 10, BYTE);
        fine("{0}", 1);
        fine("{3{0}}", 2);
    }

    private static void nodesBehind() {
        fine("{0}", 1);
        fault("{0{0}}", 2, BYTE);
        fine("{2{0}}", 6);
        fault("{2}", 2, BYTE);
        fault("{20}", 2, BYTE);
        fine("{3{0}}", 2);
        fault("{3}", 2, BYTE);
        fault("{3 }", 3, BYTE);
        fault("{3", 2, BYTE);
        fault("{4}", 1, BYTE);
        fault("{3{0}{0}}", 5, BYTE);
    }

    private static void blanks() {
        String[] parts = {"{", "0", "3", "{", "1", "2", "{", "0", "}", "}", "1", "}"};
        due("without", cost(linked(), String.join("", parts), 0), 7);
        due("everywhere", cost(linked(), String.join(" ", parts), 0), 7);
        due("many", cost(linked(), String.join("     ", parts), 0), 7);
        for (int at = 1; at < parts.length; at++) {
            StringBuilder ahead = new StringBuilder();
            StringBuilder behind = new StringBuilder();
            for (int i = 0; i < parts.length; i++) {
                (i < at ? ahead : behind).append(parts[i]);
            }
            fine(ahead + " " + behind, 7);
            for (char other : new char[] {0, 9, 10, 13, 31, 33, 160, 255}) {
                fault(ahead.toString() + other + behind, ahead.length(), BYTE);
            }
        }
    }

    /**
     * Each byte behind a beginning: one that can't stand there is the FAULT; behind one that can it is
     * the end, unless with that byte the text is whole.
     */
    private static void eachByte(String ahead, String canStand, String makesWhole) {
        for (char b = 0; b < 256; b++) {
            if (makesWhole.indexOf(b) >= 0) {
                fine(ahead + b, ahead.equals("{3{0}") ? 2 : 1);
            } else {
                fault(ahead + b, canStand.indexOf(b) >= 0 ? ahead.length() + 1 : ahead.length(), BYTE);
            }
        }
    }

    private static void bytes() {
        eachByte("", " {", "");
        eachByte("{", " 0123", "");
        eachByte("{0", " 0123", "}");
        eachByte("{2", " {", "");
        eachByte("{3 ", " {", "");
        eachByte("{3{1", " 0123}", "");
        eachByte("{3{0}", " 0123", "}");
        eachByte("{0}", "", " ");
    }

    private static void digitsAboveThree() {
        for (char digit = '4'; digit <= '9'; digit++) {
            fault("{" + digit + "}", 1, BYTE);
            fault("{0" + digit + "}", 2, BYTE);
            fault("{000000" + digit + "}", 7, BYTE);
        }
    }

    private static void behindTheLast() {
        fault("{0}0", 3, BYTE);
        fault("{0}}", 3, BYTE);
        fault("{0}{0}", 3, BYTE);
        fault("{0} 0", 4, BYTE);
        fault("{3{0}}}", 6, BYTE);
    }

    private static void theEnd() {
        String text = "{ 0 3{1 2{0}} 1 }";
        fine(text, 7);
        for (int n = 0; n < text.length(); n++) {
            fault(text.substring(0, n), n, BYTE);
        }
        fault("", 0, BYTE);
        fault("    ", 4, BYTE);
    }

    private static void twentyNodes() {
        // One, three with five within each, and so many more of the first one's.
        String nineteen = "{" + times("3{" + times("3{0}", 5) + "}", 3);
        fine(nineteen + "0}", 19);
        fine(nineteen + "3{0}}", 20);
        fault(nineteen + "3{0}3{0}}", nineteen.length() + 5, NODE);
        fault(nineteen + "3{0}3 {0}}", nineteen.length() + 6, NODE);
        fault(nineteen + "3{3{0}}}", nineteen.length() + 3, NODE);
        fault(nineteen + "3{0}3", nineteen.length() + 5, BYTE);
        fault(nineteen + "3{0}3}", nineteen.length() + 5, BYTE);
        fault(nineteen + "3{0}0{0}}", nineteen.length() + 5, BYTE);
    }

    private static void sixFields() {
        fine("{010101}", 1);
        fault("{0101010}", 7, FIELD);
        fault("{010101 0}", 8, FIELD);
        fault("{0101013{0}}", 7, FIELD);
        fault("{0101012", 7, FIELD);
        fault("{010101{", 7, BYTE);
        fine("{3{010101}01010}", 2);
        fault("{3{0101011}01010}", 9, FIELD);
        fault("{3{010101}010100}", 15, FIELD);
        fine("{" + times("3{010101}", 6) + "}", 7);
        fault("{" + times("3{010101}", 6) + "0}", 55, FIELD);
    }

    private static void fiveWithin() {
        fine("{3{3{3{3{0}}}}}", 5);
        fault("{3{3{3{3{3{0}}}}}}", 10, NODE);
        fault("{3{3{3{3{3 {0}}}}}}", 11, NODE);
        fault("{3{3{3{3{03", 11, BYTE);
        fault("{3{3{3{3{0{0}}}}}}", 10, BYTE);
        fine("{3{3{3{3{0}}}}3{3{3{3{0}}}}}", 9);
        fault("{3{3{3{3{0}}}}3{3{3{3{3{0}}}}}}", 23, NODE);
        fault("{2{2{2{2{2{0}}}}}}", 10, NODE);
    }

    /** 16 NODES up to the fifth within, of which the sixth within would be the 20th and the 21st. */
    private static void bothAtOnce() {
        String ahead = "{" + times("3{0}", 5) + "3{" + times("3{0}", 5) + "3{" + times("3{0}", 5) + "3{3{";
        fine(ahead + "0}}}}}", 20);
        fault(ahead + "3{0}}}}}}", ahead.length() + 1, NODE);
    }

    private static void theFirst() {
        fault("{4}{", 1, BYTE);
        fault("{01010114}", 7, FIELD);
        fault("{0101014", 7, BYTE);
        fault("{0{0101011}}", 2, BYTE);
        fault("{3{3{3{3{3{0101011}}}}}}", 10, NODE);
        fault("{3{3{3{3{0101011 3{0}}}}}}", 15, FIELD);
        fault("{0101011", 7, FIELD);
        fault("}{", 0, BYTE);
    }

    private static void typesOfNodes() {
        AnswerDoor x = linked();
        due("TYPE 0", cost(x, "{0}", 0), 1);
        due("TYPE 1", cost(x, "{0}", 1), faultAt(2, BYTE));
        due("TYPE 1, of TYPE 0 behind", cost(x, "{0{0}}", 1), 2);
        due("TYPE 0", cost(x, "{0{0}}", 0), faultAt(2, BYTE));
        due("TYPE 5", cost(x, "{0123}", 5), 1);
        x.field(0, 3, 1, 1, 5, false);
        due("TYPE 1 behind", cost(x, "{3{0{0}1}}", 0), 3);
        due("TYPE 1 behind", cost(x, "{3{0}}", 0), faultAt(4, BYTE));
        x.field(0, 2, 2, 1, 4, false);
        due("TYPE 1 behind a LIST", cost(x, "{2{0{0}1}0}", 0), 9);
        due("the first one's again behind it", cost(x, "{2{1}0{0}}", 0), faultAt(6, BYTE));
        x.thing(0, 7, true);
        x.key(0, 7, 3, 8);
        x.row(0, 7, 2, 1, 9);
        due("asked", ask(x, "{3{1}2{1}}", 0, 0, 7, 9), 1);
        call("of a THING of that TYPE", x, 0, 0, 0, 10, 0, 7);
        call("THINGS of those", x, 1, 0, 1, 11, 0, 8, 9);
    }

    private static void priced() {
        AnswerDoor x = linked();
        for (int most = 1; most <= 5; most++) {
            x.field(0, 2, 2, 0, most, false);
            x.field(0, 1, 2, 2, 3, false);
            x.type(0, 0, 2, 0);
            x.type(2, 0, 7, 0);
            due("behind a LIST", cost(x, "{2{0}}", 0), 2 + 2 * most);
            due("behind a REF", cost(x, "{3{0}}", 0), 2 + 2);
            due("by its own TYPE", cost(x, "{1{0}}", 0), 2 + 7 * 3);
            due("within two", cost(x, "{2{2{0}}}", 0), 2 + 2 * most + 2 * most * most);
            due("within and behind others", cost(x, "{2{1{0}}}", 0), 2 + 2 * most + 7 * 3 * most);
            due("a REF within a LIST", cost(x, "{2{3{0}}}", 0), 2 + 2 * most + 2 * most);
            due("beside a LIST", cost(x, "{2{0}3{0}}", 0), 2 + 2 * most + 2);
            due("a LIST twice", cost(x, "{2{0}2{0}}", 0), 2 + 2 * most + 2 * most);
        }
    }

    /** The dearest of all texts is far below 2000000000: 14 NODES within four LISTS, for 9 each. */
    private static void dearest() {
        AnswerDoor x = linked();
        x.type(0, 0, 9, 0);
        String text = "{2{2{" + times("2{" + times("2{0}", 5) + "}", 2) + "2{" + times("2{0}", 4) + "}}}}";
        int cost = 9 * (1 + 5 + 25 + 3 * 125 + 14 * 625);
        due("cost", cost(x, text, 0), cost);
        due("asked", ask(x, text, 0, 0, 0, 9), 2);
        due("DEAR", x.dear(), text.indexOf("2{2{0}") + 1);
    }

    private static void bucketHasNotSoMuch() {
        for (int has = 11; has <= 13; has++) {
            AnswerDoor x = linked();
            x.type(0, 0, 2, 0);
            x.asker(1, 63, has, 0);
            due("12 of " + has, ask(x, "{2{0}}", 1, 0, 0, 9), has < 12 ? 2 : 1);
            due("what is left", x.count(11), has < 12 ? has : has - 12);
            due("NOW", x.count(0), has < 12 ? 10 : 11);
            due("the TAPE is empty", x.count(1), 0);
            due("DEAR", x.dear(), has < 12 ? 2 : -1);
            due("answered", x.count(3), has < 12 ? 0 : 2);
        }
        AnswerDoor x = linked();
        x.asker(1, 0, 1, 1);
        due("the last one", ask(x, "{0}", 1, 0, 0, 9), 1);
        due("empty", x.count(11), 0);
        due("refused", ask(x, "{0}", 1, 0, 0, 9), 2);
        due("still empty", x.count(11), 0);
        x.pass(1);
        due("a TICK later", ask(x, "{0}", 1, 0, 0, 9), 1);
        due("another ASKER's has all", x.count(12), 100);
    }

    private static void dearPlace() {
        AnswerDoor x = linked();
        x.type(0, 0, 3, 0);
        // Its NODES are priced 3, 15, 75, 3 and 3: 3, 18, 93, 96 and 99 so far.
        String text = "  { 0 2 {2  {1}} 3{3{0} 1 } }";
        due("cost", cost(x, text, 0), 99);
        int[][] cases = {{1, 2}, {2, 2}, {3, 8}, {17, 8}, {18, 12}, {92, 12}, {93, 18}, {95, 18}, {96, 20}, {98, 20}};
        for (int[] c : cases) {
            x.asker(1, 63, c[0], 50);
            x.pass(2);
            due("refused by " + c[0], ask(x, text, 1, 0, 0, 9), 2);
            due("DEAR by " + c[0], x.dear(), c[1]);
            x.asker(1, 63, 500, 50);
            x.pass(2);
        }
        x.asker(1, 63, 99, 0);
        due("99 is enough", ask(x, text, 1, 0, 0, 9), 1);
    }

    private static void dearStays() {
        AnswerDoor x = linked();
        due("ahead of any", x.dear(), -1);
        due("answered", ask(x, "{0}", 0, 0, 0, 9), 1);
        due("still ahead", x.dear(), -1);
        x.asker(1, 63, 3, 0);
        due("refused", ask(x, "{3{3{2{0}}}}", 1, 0, 0, 9), 2);
        due("DEAR", x.dear(), 6);
        due("answered", ask(x, "{0}", 1, 0, 0, 9), 1);
        due("a FAULT", ask(x, "{", 1, 0, 0, 9), faultAt(1, BYTE));
        due("NONE", x.ask(1, 0, 0, 0), -1);
        due("cost", cost(x, "{2{2{0}}}", 0), 31);
        due("of the latest that was 2", x.dear(), 6);
        due("refused", ask(x, "{3{3{0}}}", 1, 0, 0, 9), 2);
        due("of this one then", x.dear(), 4);
    }

    private static void refusedAsk() {
        int[][] bad = {{-1, 0, 0, 5}, {4, 0, 0, 5}, {0, -1, 0, 5}, {0, 6, 0, 5}, {0, 0, -1, 5}, {0, 0, 32, 5},
            {0, 0, 0, 0}, {0, 0, 0, 201}};
        for (int[] b : bad) {
            for (String text : new String[] {"{0}", "{", "", "{2{2{2{2{0}}}}}"}) {
                AnswerDoor x = linked();
                tell(x, text);
                due("ask", x.ask(b[0], b[1], b[2], b[3]), -1);
                due("the TAPE stays", x.count(1), text.length());
                due("NOW", x.count(0), 10);
                due("the BUCKET", x.count(10), 500);
                due("no answer", x.count(3), 0);
                due("no DEAR", x.dear(), -1);
            }
        }
        int[][] good = {{0, 0, 0, 1}, {3, 5, 31, 200}};
        for (int[] g : good) {
            AnswerDoor x = linked();
            tell(x, "{0}");
            due("taken", x.ask(g[0], g[1], g[2], g[3]), 1);
            due("empty then", x.count(1), 0);
        }
    }

    private static void beyondTheLastTick() {
        AnswerDoor x = new AnswerDoor();
        for (int i = 0; i < 99; i++) {
            x.pass(1000);
        }
        x.pass(800);
        tell(x, "{0}");
        due("just to the end", x.ask(0, 0, 0, 200), 1);
        due("NOW", x.count(0), 99801);
        tell(x, "{0}");
        due("one beyond", x.ask(0, 0, 0, 200), -1);
        due("the TAPE stays", x.count(1), 3);
        due("NOW", x.count(0), 99801);
        due("one less", x.ask(0, 0, 0, 199), 1);
        x.pass(197);
        x.helper(0, 9, 8, 8, 0, 1);
        due("NOW", x.count(0), 99999);
        tell(x, "{0}");
        due("2 beyond the last but one", x.ask(0, 0, 0, 2), -1);
        due("1 to the last", x.ask(0, 0, 0, 1), 1);
        answer("too late", x, 0, 5);
        due("NOW", x.count(0), 100000);
        tell(x, "{0}");
        due("none behind the last", x.ask(0, 0, 0, 1), -1);
        due("cost all the same", x.cost(0), 1);
    }

    private static void nullSomewhere() {
        AnswerDoor x = linked();
        x.thing(0, 0, true);
        x.thing(0, 1, true);
        due("0 answered", ask(x, "{0}", 0, 0, 0, 9), 0);
        due("1 where it is null", ask(x, "{0}", 0, 0, 2, 9), 1);
        due("1 where a REF is NONE", ask(x, "{3{0}}", 0, 0, 0, 9), 1);
        due("0 by an empty LIST", ask(x, "{2{0}}", 0, 0, 0, 9), 0);
        x.key(0, 0, 3, 1);
        due("0 with a REF", ask(x, "{3{0}}", 0, 0, 0, 9), 0);
        due("1 within", ask(x, "{3{3{0}}}", 0, 0, 0, 9), 1);
        x.row(0, 0, 2, 2, keys(1, 2));
        due("1 in a LIST", ask(x, "{2{0}}", 0, 0, 0, 9), 1);
        x.row(0, 0, 2, 2, keys(1, 1));
        due("0 in a LIST", ask(x, "{2{0}}", 0, 0, 0, 9), 0);
        x.field(0, 3, 1, 0, 5, true);
        due("1 by MUST", ask(x, "{2{3{0}}}", 0, 0, 0, 9), 1);
        due("0 where none is told", ask(x, "{2{0}}", 0, 0, 0, 9), 0);
        x.asker(1, 0, 500, 0);
        due("1 without the RIGHT", ask(x, "{0}", 1, 0, 0, 9), 1);
    }

    private static void costStays() {
        AnswerDoor x = linked();
        due("of an empty TAPE", x.cost(0), faultAt(0, BYTE));
        tell(x, "{0}");
        for (int t = 0; t < 6; t++) {
            due("for a TYPE", x.cost(t), t == 1 ? faultAt(2, BYTE) : 1);
            due("the TAPE stays", x.count(1), 3);
        }
        for (int t : new int[] {-1, 6, Integer.MIN_VALUE, Integer.MAX_VALUE}) {
            due("for others", x.cost(t), -1);
            due("the TAPE stays", x.count(1), 3);
        }
        due("NOW", x.count(0), 10);
        due("nothing is paid", x.count(10), 500);
        due("the text is still there", x.ask(0, 0, 0, 9), 1);
        tell(x, "{0{");
        due("a FAULT", x.cost(0), faultAt(2, BYTE));
        due("the TAPE stays", x.count(1), 3);
        due("it goes on", x.end(2), 2);
        tell(x, "}");
        due("it goes on", x.cost(0), 1);
    }

    private static void texts() {
        test("AN ASK is a text of at most 200 bytes", TextEdges::length);
        test("NODE = { FIELD FIELD .. }, one FIELD at least", TextEdges::oneField);
        test("FIELD: a digit 0 to 3, of a REF or LIST with a NODE behind it, of a number without",
            TextEdges::nodesBehind);
        test("blanks (32) anywhere between", TextEdges::blanks);
        test("At most 20 NODES", TextEdges::twentyNodes);
        test("6 FIELDS each", TextEdges::sixFields);
        test("5 NODES within one another", TextEdges::fiveWithin);
        test("It is asked for a THING of a TYPE (the first NODE's), each NODE behind a REF or LIST is of that one's TYPE.",
            TextEdges::typesOfNodes);
        test("FAULTS, the first along the text", TextEdges::theFirst);
        test("0 a byte that can't stand there", TextEdges::bytes);
        test("a digit above 3", TextEdges::digitsAboveThree);
        test("a byte behind the last }", TextEdges::behindTheLast);
        test("or the end (behind the last byte)", TextEdges::theEnd);
        test("1 the 21st NODE, the 6th within one another (at its {)", TextEdges::bothAtOnce);
        test("PRICED: each NODE by the PRICE of its TYPE, times the MOST of all LISTS that it is within or behind.",
            TextEdges::priced);
        test("All together is the COST (2000000000 at most: what would be more is that).", TextEdges::dearest);
        test("If the bucket has not so much, it is refused, and nothing is paid", TextEdges::bucketHasNotSoMuch);
        test("DEAR is the place of the { of the first NODE, along the text, with which what is PRICED so far is above "
            + "what the bucket has.", TextEdges::dearPlace);
    }

    private static void promises() {
        test("NONE, and nothing happens, for others, or if NOW + TICKS would be beyond 100000.",
            TextEdges::refusedAsk);
        test("or if NOW + TICKS would be beyond 100000.", TextEdges::beyondTheLastTick);
        test("0 answered, 1 answered with a null somewhere (also where NONE), 2 refused as too dear",
            TextEdges::nullSomewhere);
        test("COST of a text that is told so, for a TYPE: -2 - its FAULT; NONE, and nothing happens, for others. "
            + "The TAPE stays.", TextEdges::costStays);
        test("DEAR of the latest ask() that was 2; NONE ahead of any.", TextEdges::dearStays);
    }

    public static void main(String[] args) {
        texts();
        promises();
        report();
    }
}
