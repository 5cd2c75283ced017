import java.math.BigInteger;
import java.util.ArrayList;
import java.util.List;

/** Promises 22 to 27: told and answered in words, and what is told of the object. */
final class WordSentences {
    private WordSentences() {
    }

    static void tell(Sentences doc) {
        doc.in("Promise 22");
        doc.says("A byte (0 .. 127) comes behind THE TEXT: how many it has.", WordSentences::type);
        doc.says("BAD;", WordSentences::typeBad);
        doc.says("FULL: 120.", WordSentences::typeFull);
        doc.in("Promise 23");
        doc.says("THE TEXT is empty: how many it had.", WordSentences::clear);
        doc.in("Promise 24");
        doc.says("SENTENCES are done: how many;", WordSentences::says);
        doc.says("THE ANSWER is theirs.", WordSentences::saysAnswer);
        doc.says("-10 less the FAULT (THE ANSWER stays).", WordSentences::saysFault);
        doc.in("Promise 25");
        doc.says("How many signs THE ANSWER has (k = NONE),", WordSentences::answerSigns);
        doc.says("the k-th as a byte;", WordSentences::answerBytes);
        doc.says("-5: not so many.", WordSentences::answerNotSoMany);
        doc.says("BAD: -10.", WordSentences::answerBad);
        doc.in("Promise 26");
        doc.says("How often refused: BAD (0), NO (1), FULL (2);", WordSentences::toldRefused);
        doc.says("bytes of THE TEXT (3), UNITS (4), THE METHOD (5), signs of THE ANSWER (6).", WordSentences::told);
        doc.says("BAD.", WordSentences::toldBad);
        doc.in("Promise 27");
        doc.says("h = 2029; then h = 31 h + v for each v: told(0) to told(6);", WordSentences::digestOfTold);
        doc.says("of UNITS of(0) to of(5);", WordSentences::digestOfUnits);
        doc.says("was(0) to was(3);", WordSentences::digestOfWas);
        doc.says("signs of THE ANSWER.", WordSentences::digestOfAnswer);
    }

    private static void type() {
        DuelSamples d = new DuelSamples();
        for (int c = 0; c < 120; c++) {
            Check.due("type(" + c + ")", d.type(c), c + 1);
        }
        d.clear();
        for (int c = 120; c <= 127; c++) {
            Check.due("type(" + c + ")", d.type(c), c - 119);
        }
        d.clear();
        Check.due("type('f')", d.type('f'), 1);
        Check.due("type('a')", d.type('a'), 2);
        Check.due("type('r')", d.type('r'), 3);
        Check.due("not ended yet", d.says(), -13);
        Check.due("type(';')", d.type(';'), 4);
        Check.due("behind what was there", d.says(), 1);
        Check.due("far", d.told(5), 3);
    }

    private static void typeBad() {
        DuelSamples d = Calls.inUse();
        for (int c : Calls.outside(127)) {
            Calls.bad(d, "type(" + c + ")", () -> d.type(c));
        }
        Calls.bad(d, "type(256 and 32)", () -> d.type(288));
        Check.due("the text stays", d.says(), 1);
    }

    private static void typeFull() {
        DuelSamples d = new DuelSamples();
        Calls.types(d, "row;" + " ".repeat(115));
        Check.due("the 120th", d.type(' '), 120);
        Calls.full(d, "a 121st", () -> d.type('x'));
        Calls.full(d, "a 121st again", () -> d.type(0));
        Check.due("bytes", d.told(3), 120);
        Check.due("the text stays", d.says(), 1);
        d.clear();
        Check.due("when it is empty", d.type('x'), 1);
    }

    private static void clear() {
        DuelSamples d = new DuelSamples();
        Check.due("nothing", d.clear(), 0);
        for (int n : new int[] {1, 4, 119, 120}) {
            for (int k = 0; k < n; k++) {
                d.type('x');
            }
            Check.due("of " + n, d.clear(), n);
            Check.due("bytes", d.told(3), 0);
            Check.due("again", d.clear(), 0);
            Check.due("it says nothing", d.says(), -10);
        }
        DuelSamples e = Calls.inUse();
        e.clear();
        Check.due("the answer stays", Calls.reply(e).length(), 1);
    }

    private static void says() {
        DuelSamples d = new DuelSamples();
        Check.due("one", Calls.tells(d, "unit 12 34 3 56 78;"), 1);
        Check.due("the text stays", d.told(3), 19);
        Check.due("it is done again", d.says(), 1);
        Check.due("units", d.told(4), 2);
        Check.due("five", Calls.tells(d, "turn 0 1;place 0 2;near;walk 5;many;"), 5);
        Check.due("thirty", Calls.tells(d, "row;far;".repeat(15)), 30);
        Check.due("one by one", Calls.answered(d, "turn 0 3;turn 0 4;turn 0 5;"), "1 3 4");
        Check.due("nothing was refused", d.told(0) + d.told(1) + d.told(2), 0);
    }

    private static void saysAnswer() {
        DuelSamples d = new DuelSamples();
        Check.due("long", Calls.answered(d, "near;strata;far;chance;"), "row near strata far");
        Check.due("shorter", Calls.answered(d, "many;"), "0");
        Check.due("nothing of the one ahead", d.answer(1), -5);
        Check.due("longer again", Calls.answered(d, "row;row;"), "chance row");
    }

    private static void saysFault() {
        DuelSamples d = new DuelSamples();
        Check.due("an empty text", d.says(), -10);
        Check.due("near", Calls.answered(d, "near;"), "row");
        for (int place = 0; place < 120; place += 29) {
            Calls.types(d, " ".repeat(place) + "x");
            Check.due("fault at " + place, d.says(), -10 - place);
        }
        Check.due("the answer stays", Calls.reply(d), "row");
        Check.due("how many stays", d.told(6), 3);
        DuelSamples e = new DuelSamples();
        Calls.types(e, "many;" + " ".repeat(114) + "x");
        Check.due("fault at 119", e.says(), -129);
        Check.due("none as yet", e.answer(Calls.NONE), 0);
        Calls.types(e, "many".repeat(30));
        Check.due("one long word", e.says(), -10);
        Calls.types(e, "row;".repeat(29) + "many");
        Check.due("fault at 120", e.says(), -130);
    }

    private static void answerSigns() {
        DuelSamples d = new DuelSamples();
        Check.due("at first", d.answer(Calls.NONE), 0);
        Calls.tells(d, "many;");
        Check.due("one", d.answer(Calls.NONE), 1);
        Calls.tells(d, "many;near;");
        Check.due("five", d.answer(Calls.NONE), 5);
        DuelSamples e = Calls.withChances(Calls.ALL_WHOLE);
        Calls.tells(e, "walk1;".repeat(20));
        Check.due("the most", e.answer(Calls.NONE), 300);
    }

    private static void answerBytes() {
        DuelSamples d = Calls.withChances(12, 12);
        Calls.tells(d, "near;walk 1;turn 0 0;turn 1 0;walk 1;");
        String want = "row 0+1 12 12 -";
        for (int k = 0; k < want.length(); k++) {
            Check.due("answer(" + k + ")", d.answer(k), want.charAt(k));
        }
    }

    private static void answerNotSoMany() {
        DuelSamples d = new DuelSamples();
        for (int k : new int[] {0, 1, 299, 300, Integer.MAX_VALUE}) {
            Check.due("answer(" + k + ") of none", d.answer(k), -5);
        }
        Calls.tells(d, "near;");
        Check.due("the last", d.answer(2), 'w');
        for (int k : new int[] {3, 4, 299, 300, 301, Integer.MAX_VALUE}) {
            Check.due("answer(" + k + ") of three", d.answer(k), -5);
        }
        Check.due("nothing was refused", d.told(0), 0);
    }

    private static void answerBad() {
        DuelSamples d = Calls.inUse();
        for (int k : new int[] {-2, -3, -10, Integer.MIN_VALUE}) {
            Calls.refused(d, "answer(" + k + ")", () -> d.answer(k), 0, -10);
        }
    }

    private static void toldRefused() {
        DuelSamples d = new DuelSamples();
        for (int k = 1; k <= 30; k++) {
            d.walk(-1);
            Check.due("BAD", d.told(0), k);
        }
        d.draw(3, 12);
        for (int k = 1; k <= 30; k++) {
            d.unit(0, 0, 0, 0, 0);
            Check.due("FULL", d.told(2), k);
        }
        Check.due("BAD still", d.told(0), 30);
        Check.due("NO", d.told(1), 0);
        d.empties();
        d.clear();
        d.draw(1, 2);
        Check.due("BAD stays", d.told(0), 30);
        Check.due("FULL stays", d.told(2), 30);
    }

    private static void told() {
        DuelSamples d = new DuelSamples();
        d.draw(3, 12);
        d.method(3);
        Calls.tells(d, "many; near  ;");
        int[] want = {0, 0, 0, 13, 12, 1, 5};
        for (int what = 0; what < 7; what++) {
            Check.due("told(" + what + ")", d.told(what), want[what]);
        }
        d.clear();
        d.empties();
        d.method(4);
        int[] then = {0, 0, 0, 0, 0, 4, 5};
        for (int what = 0; what < 7; what++) {
            Check.due("then told(" + what + ")", d.told(what), then[what]);
        }
    }

    private static void toldBad() {
        DuelSamples d = Calls.inUse();
        for (int what : Calls.outside(6)) {
            Calls.bad(d, "told(" + what + ")", () -> d.told(what));
        }
    }

    /** The digest by the document, with numbers that never wrap around until the last. */
    private static long due(DuelSamples d) {
        List<Integer> all = new ArrayList<>();
        for (int what = 0; what <= 6; what++) {
            all.add(d.told(what));
        }
        int units = d.told(4);
        for (int u = 0; u < units; u++) {
            for (int what = 0; what <= 5; what++) {
                all.add(d.of(u, what));
            }
        }
        for (int what = 0; what <= 3; what++) {
            all.add(d.was(what));
        }
        for (char sign : Calls.reply(d).toCharArray()) {
            all.add((int) sign);
        }
        BigInteger h = BigInteger.valueOf(2029);
        for (int v : all) {
            h = h.multiply(BigInteger.valueOf(31)).add(BigInteger.valueOf(v));
        }
        return h.longValue();
    }

    private static void digest(String what, DuelSamples d) {
        long want = due(d);
        Check.due(what, d.digest(), want);
        Check.due(what + " again", d.digest(), want);
    }

    private static void digestOfTold() {
        Check.due("a new object", new DuelSamples().digest(), 2029 * Calls.power(11));
        DuelSamples d = new DuelSamples();
        d.walk(-1);
        digest("BAD once", d);
        Calls.types(d, " ".repeat(120));
        d.type('x');
        digest("FULL once, and a text", d);
        d.method(4);
        digest("a method", d);
    }

    private static void digestOfUnits() {
        DuelSamples d = new DuelSamples();
        d.unit(1, 2, 3, 4, 5);
        digest("one unit", d);
        d.sets(0, 0, 12);
        d.walk(0);
        digest("one unit that is in", d);
        d.draw(5, 12);
        digest("twelve units", d);
    }

    private static void digestOfWas() {
        DuelSamples d = new DuelSamples();
        d.draw(5, 12);
        for (int seed = 0; seed < 3; seed++) {
            d.walk(seed);
            digest("walk " + seed, d);
        }
    }

    private static void digestOfAnswer() {
        DuelSamples d = new DuelSamples();
        Calls.tells(d, "many;far;");
        digest("a short one", d);
        DuelSamples e = Calls.withChances(1, 1, 1, 1, 1, 1, 1, 1, 12, 12, 12, 12);
        Calls.tells(e, "walk1;walk2;walk3;walk4;".repeat(5));
        Check.holds("31 so often wraps around", e.told(6) > 13);
        digest("a long one", e);
    }
}
