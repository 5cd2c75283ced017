/** Terms: units, walks, methods, and what is counted up. */
final class TermSentences {
    private TermSentences() {
    }

    static void tell(Sentences doc) {
        doc.in("What it is");
        doc.says("An object is used for at most 512 calls after it has been made;", TermSentences::calls512);
        doc.in("Terms");
        doc.says("11, as they come:", TermSentences::numbers);
        doc.says("a CHANCE (0 .. 12 twelfths),", () -> bounds(0));
        doc.says("a PLACE (0 .. 99),", () -> bounds(1));
        doc.says("a STRATUM (0 .. 3),", () -> bounds(2));
        doc.says("a SIZE (0 .. 99),", () -> bounds(3));
        doc.says("a VALUE (0 .. 99).", () -> bounds(4));
        doc.says("A WALK begins with LEFT of each UNIT as its CHANCE.", TermSentences::begins);
        doc.says("OPEN are those with LEFT above 0 and below 12.", TermSentences::open);
        doc.says("As long as two are OPEN two of them PLAY, u and v (a and b LEFT):", TermSentences::asLongAsTwo);
        doc.says("if a and b together, s, are 12 or less: one of both gets s, the other 0;", TermSentences::twelve);
        doc.says("u gets it by a of s chances.", TermSentences::small);
        doc.says("Else with s as 24 less a less b: one of both gets 12, the other what is left of a and b together;",
                TermSentences::thirteen);
        doc.says("u gets 12 by (12 less b) of s chances.", TermSentences::large);
        doc.says("If one is OPEN at last, it gets 12 by as many of 12 chances as it has LEFT, else 0.",
                TermSentences::alone);
        doc.says("The SAMPLE: UNITS with LEFT 12 then.", TermSentences::sample);
        doc.says("A WALK by SEED (0 .. 999999): X is SEED at first;", TermSentences::seeds);
        doc.says("ahead of each PLAY (that of the last one, too) X becomes X times 1103515245 and 12345,"
                + " by 2147483648 what is left over;", TermSentences::wrapsAround);
        doc.says("X by 65536 (cut), by s (12 for the last one) left over, is r: below as many chances as are told of u:"
                + " u gets it.", TermSentences::below);
        doc.says("METHODS (0 at first; their words behind) say which two:", TermSentences::methods);
        doc.says("0 row: the two least.", TermSentences::row);
        doc.says("1 near: u is the least, v the nearest to it by PLACE (of like ones the least).", TermSentences::near);
        doc.says("2 strata: the two least of the least STRATUM that has two OPEN;", TermSentences::strata);
        doc.says("has none: the two least.", TermSentences::noStratum);
        doc.says("3 far: u is the least, v the farthest from it by PLACE (of like ones the least).",
                TermSentences::far);
        doc.says("4 chance: u is the one of most LEFT, v that of most of the others (of like ones the least).",
                TermSentences::chance);
        doc.says("COUNTED UP of a SAMPLE: of VALUES (or SIZES) of its UNITS each times 12 by its CHANCE, together"
                + " (in 27720ths, which are whole).", TermSentences::countedUp);
        doc.says("MISS: by how much SIZES COUNTED UP and SIZES of all UNITS of a CHANCE above 0 are unlike"
                + " (in 27720ths).", TermSentences::miss);
    }

    private static void calls512() {
        DuelSamples d = new DuelSamples();
        for (int k = 1; k <= 510; k++) {
            Check.due("call " + k + ", type('r')", d.type('r'), k <= 120 ? k : Calls.FULL);
        }
        Check.due("call 511, told(2)", d.told(2), 390);
        Check.due("call 512, clear()", d.clear(), 120);
    }

    private static void numbers() {
        DuelSamples d = new DuelSamples();
        for (int u = 0; u < 12; u++) {
            Check.due("unit " + u, d.unit(1, 50 - u, 0, 0, 0), u);
        }
        for (int u = 0; u < 12; u++) {
            Check.due("place of " + u, d.of(u, 1), 50 - u);
        }
        Check.due("a thirteenth", d.unit(1, 0, 0, 0, 0), Calls.FULL);
        d.empties();
        Check.due("the first one again", d.unit(1, 0, 0, 0, 0), 0);
        d.draw(1, 3);
        Check.due("behind three drawn ones", d.unit(1, 0, 0, 0, 0), 3);
        Check.due("by a word", Calls.answered(d, "unit 1 2 3 4 5;"), "4");
    }

    private static int unitWith(DuelSamples d, int what, int v) {
        int[] facts = {1, 1, 1, 1, 1};
        facts[what] = v;
        return d.unit(facts[0], facts[1], facts[2], facts[3], facts[4]);
    }

    private static String unitInWords(int what, int v) {
        StringBuilder text = new StringBuilder("unit");
        for (int i = 0; i < 5; i++) {
            text.append(' ').append(i == what ? v : 1);
        }
        return text.append(';').toString();
    }

    private static void bounds(int what) {
        String setting = new String[] {"turn", "place", "stratum", "size", "value"}[what];
        int most = Calls.MOST[what];
        for (int v : new int[] {0, most}) {
            DuelSamples d = new DuelSamples();
            Check.due("unit with " + v, unitWith(d, what, v), 0);
            Check.due("it is " + v, d.of(0, what), v);
            Check.due("sets to 1", d.sets(0, what, 1), v);
            Check.due("sets to " + v, d.sets(0, what, v), 1);
            Check.due("it is set to " + v, d.of(0, what), v);
            Check.due("unit in words with " + v, Calls.answered(d, unitInWords(what, v)), "1");
            Check.due("it is told to be " + v, d.of(1, what), v);
            Check.due("set to 1 in words", Calls.answered(d, setting + " 1 1;"), "" + v);
            Check.due("set to " + v + " in words", Calls.answered(d, setting + " 1 " + v + ";"), "1");
        }
        for (int v : Calls.outside(most)) {
            DuelSamples d = Calls.inUse();
            Calls.bad(d, "unit with " + v, () -> unitWith(d, what, v));
            Calls.bad(d, "sets to " + v, () -> d.sets(0, what, v));
        }
        DuelSamples d = Calls.inUse();
        Calls.fault(d, unitInWords(what, most + 1), 5 + 2 * what);
        Calls.fault(d, setting + " 0 " + (most + 1) + ";", setting.length() + 3);
    }

    private static void begins() {
        DuelSamples d = Calls.withChances(3, 4, 8, 2, 6);
        int n = d.walk(17);
        String plays = Calls.plays(d);
        d.walk(18);
        Check.due("the same seed again", d.walk(17), n);
        Check.due("its plays", Calls.plays(d), plays);
        Check.due("the chance stays", d.of(0, 0), 3);
        d.sets(0, 0, 9);
        DuelSamples e = Calls.withChances(9, 4, 8, 2, 6);
        Check.due("with another chance", d.walk(17), e.walk(17));
        Check.due("its plays", Calls.plays(d), Calls.plays(e));
    }

    private static void open() {
        for (int c = 0; c <= 12; c++) {
            boolean isOpen = c > 0 && c < 12;
            DuelSamples d = Calls.walked(c);
            Check.due("plays of one with chance " + c, d.was(1), isOpen ? 1 : 0);
            Check.due("open of one with chance " + c, d.all(3), isOpen ? 1 : 0);
            Check.due("samples of one with chance " + c, d.many(), isOpen ? 2 : 1);
        }
        Check.due("12 and 0 stand aside", Calls.plays(Calls.walked(12, 0, 1, 12, 0, 11)).substring(0, 4), "2:5=");
    }

    private static void asLongAsTwo() {
        Check.due("two", Calls.walked(6, 6).was(1), 1);
        Check.due("pairs of twelve", Calls.walked(6, 6, 6, 6, 6, 6, 6, 6, 6, 6, 6, 6).was(1), 6);
        Check.due("one of twelve", Calls.walked(1, 1, 1, 1, 1, 1, 1, 1, 1, 1, 1, 1).was(1), 11);
        Check.due("all but one of twelve", Calls.walked(11, 11, 11, 11, 11, 11, 11, 11, 11, 11, 11, 11).was(1), 11);
        Check.due("twelve, one alone at last", Calls.walked(1, 1, 1, 1, 1, 1, 1, 1, 1, 1, 1, 5).was(1), 12);
        Check.due("none", Calls.walked(12, 0).was(1), 0);
    }

    /** Two alone whose chances are 12 or less together: the first play, and what comes of the one that got it. */
    private static void smallPair(int a, int b) {
        DuelSamples d = Calls.withChances(a, b);
        for (int seed = 0; seed < 30; seed++) {
            long[] x = Calls.xs(seed, 2);
            int got = x[0] / 65536 % (a + b) < a ? 0 : 1;
            boolean whole = a + b == 12;
            boolean in = whole || x[1] / 65536 % 12 < a + b;
            String last = whole ? "" : " " + got + ":-1=" + (in ? got : Calls.NONE);
            String call = a + " and " + b + ", walk(" + seed + ")";
            Check.due(call, d.walk(seed), in ? 1 : 0);
            Check.due(call + ", plays", Calls.plays(d), "0:1=" + got + last);
            Check.due(call + ", sample", d.was(0), in ? 1 << got : 0);
        }
        Check.due(a + " and " + b + " are 12 or less", d.was(2), 1);
        Check.due(a + " and " + b + " are not more", d.was(3), 0);
    }

    private static void largePair(int a, int b) {
        DuelSamples d = Calls.withChances(a, b);
        for (int seed = 0; seed < 30; seed++) {
            long[] x = Calls.xs(seed, 2);
            int got = x[0] / 65536 % (24 - a - b) < 12 - b ? 0 : 1;
            int other = 1 - got;
            boolean in = x[1] / 65536 % 12 < a + b - 12;
            String call = a + " and " + b + ", walk(" + seed + ")";
            Check.due(call, d.walk(seed), in ? 2 : 1);
            Check.due(call + ", plays", Calls.plays(d),
                    "0:1=" + got + " " + other + ":-1=" + (in ? other : Calls.NONE));
            Check.due(call + ", sample", d.was(0), in ? 3 : 1 << got);
        }
        Check.due(a + " and " + b + " are more than 12", d.was(3), 1);
        Check.due(a + " and " + b + " are not less", d.was(2), 0);
    }

    private static void twelve() {
        for (int a = 1; a <= 11; a++) {
            smallPair(a, 12 - a);
        }
        smallPair(1, 1);
        smallPair(5, 6);
    }

    private static void small() {
        for (int a = 1; a <= 11; a++) {
            for (int b = 1; a + b <= 12; b++) {
                smallPair(a, b);
            }
        }
    }

    private static void thirteen() {
        for (int a = 2; a <= 11; a++) {
            largePair(a, 13 - a);
        }
        largePair(11, 11);
    }

    private static void large() {
        for (int a = 2; a <= 11; a++) {
            for (int b = 13 - a; b <= 11; b++) {
                largePair(a, b);
            }
        }
    }

    private static void alone() {
        for (int c = 1; c <= 11; c++) {
            DuelSamples d = Calls.withChances(c);
            for (int seed = 0; seed < 60; seed++) {
                boolean in = Calls.xs(seed, 1)[0] / 65536 % 12 < c;
                Check.due("one of " + c + ", walk(" + seed + ")", d.walk(seed), in ? 1 : 0);
                Check.due("one of " + c + ", walk(" + seed + "), play", d.play(0, 2), in ? 0 : Calls.NONE);
            }
        }
    }

    private static void sample() {
        DuelSamples d = Calls.withChances(0, 12, 0, 12, 12);
        Check.due("whole ones are in", d.walk(77), 3);
        Check.due("who is in", d.was(0), 26);
        Check.due("no unit", new DuelSamples().walk(0), 0);
        Check.due("all of twelve", Calls.walked(Calls.ALL_WHOLE).was(0), 4095);
        Check.due("none of three", Calls.walked(0, 0, 0).was(0), 0);
        for (int seed = 0; seed < 20; seed++) {
            Check.due("one of two by 12, walk(" + seed + ")", Calls.withChances(5, 7).walk(seed), 1);
        }
    }

    private static void seeds() {
        DuelSamples d = Calls.withChances(6, 6);
        for (int seed : new int[] {0, 1, 999998, 999999}) {
            int got = Calls.xs(seed, 1)[0] / 65536 % 12 < 6 ? 0 : 1;
            Check.due("walk(" + seed + ")", d.walk(seed), 1);
            Check.due("who is in by walk(" + seed + ")", d.was(0), 1 << got);
        }
        for (int seed : Calls.outside(999999)) {
            Calls.bad(d, "walk(" + seed + ")", () -> d.walk(seed));
        }
    }

    /** Eleven of chance 1: the one that has got all so far plays the next one, and is alone at last with 11. */
    private static void elevenOfOne(int seed) {
        DuelSamples d = Calls.withChances(1, 1, 1, 1, 1, 1, 1, 1, 1, 1, 1);
        long[] x = Calls.xs(seed, 11);
        StringBuilder want = new StringBuilder();
        int holder = 0;
        for (int k = 1; k <= 10; k++) {
            int got = x[k - 1] / 65536 % (k + 1) < k ? holder : k;
            want.append(holder).append(':').append(k).append('=').append(got).append(' ');
            holder = got;
        }
        boolean in = x[10] / 65536 % 12 < 11;
        want.append(holder).append(":-1=").append(in ? holder : Calls.NONE);
        d.walk(seed);
        Check.due("plays by " + seed, Calls.plays(d), want.toString());
    }

    private static void wrapsAround() {
        // By 0 and 1 nothing is left out yet at the first play; by 2 and beyond it is.
        for (int seed : new int[] {0, 1, 2, 3, 65535, 65536, 499999, 999998, 999999}) {
            elevenOfOne(seed);
        }
    }

    private static void below() {
        boolean[] seen = new boolean[4];
        DuelSamples d = Calls.withChances(4, 3);
        for (int seed = 0; seed < 100; seed++) {
            long[] x = Calls.xs(seed, 2);
            long r = x[0] / 65536 % 7;
            long last = x[1] / 65536 % 12;
            d.walk(seed);
            Check.due("r " + r + " of 7, 4 chances", d.play(0, 2), r < 4 ? 0 : 1);
            Check.due("r " + last + " of 12, 7 chances", d.play(1, 2), last < 7 ? d.play(0, 2) : Calls.NONE);
            seen[0] |= r == 3;
            seen[1] |= r == 4;
            seen[2] |= last == 6;
            seen[3] |= last == 7;
        }
        for (int k = 0; k < 4; k++) {
            Check.holds("edge " + k + " was met", seen[k]);
        }
    }

    private static void methods() {
        Check.due("at first", new DuelSamples().told(5), 0);
        Check.due("row at first", Calls.answered(new DuelSamples(), "row;"), "row");
        String[] words = {"row", "near", "strata", "far", "chance"};
        for (int k = 0; k < 5; k++) {
            DuelSamples d = new DuelSamples();
            d.method(k);
            Check.due("the word of " + k, Calls.answered(d, "row;"), words[k]);
            Calls.tells(d, words[k] + ";");
            Check.due("the number of " + words[k], d.told(5), k);
        }
    }

    /** Who plays first by a method, of units told as chance, place, stratum. */
    private static String pair(int method, int[]... units) {
        DuelSamples d = new DuelSamples();
        for (int[] u : units) {
            d.unit(u[0], u[1], u[2], 1, 1);
        }
        d.method(method);
        d.walk(1);
        return d.play(0, 0) + ":" + d.play(0, 1);
    }

    /** The same of units told as chances and places by turns. */
    private static String pairByPlace(int method, int... chancesAndPlaces) {
        int[][] units = new int[chancesAndPlaces.length / 2][];
        for (int i = 0; i < units.length; i++) {
            units[i] = new int[] {chancesAndPlaces[2 * i], chancesAndPlaces[2 * i + 1], 0};
        }
        return pair(method, units);
    }

    private static String pairByStratum(int... chancesAndStrata) {
        int[][] units = new int[chancesAndStrata.length / 2][];
        for (int i = 0; i < units.length; i++) {
            units[i] = new int[] {chancesAndStrata[2 * i], 50, chancesAndStrata[2 * i + 1]};
        }
        return pair(2, units);
    }

    private static void row() {
        Check.due("all open", pairByPlace(0, 5, 90, 5, 10, 5, 90), "0:1");
        Check.due("0 and 12 stand aside", pairByPlace(0, 0, 1, 12, 1, 6, 1, 12, 1, 0, 1, 1, 9, 11, 1), "2:5");
        Check.due("the last two of twelve", pairByPlace(0, 0, 0, 0, 0, 0, 0, 0, 0, 0, 0, 0, 0, 0, 0, 0, 0, 0, 0, 0, 0,
                1, 0, 11, 0), "10:11");
    }

    private static void near() {
        Check.due("below", pairByPlace(1, 5, 50, 5, 60, 5, 41, 5, 40), "0:2");
        Check.due("above", pairByPlace(1, 5, 50, 5, 40, 5, 59, 5, 60), "0:2");
        Check.due("the next one", pairByPlace(1, 5, 50, 5, 51, 5, 52), "0:1");
        Check.due("like ones on both sides", pairByPlace(1, 5, 50, 5, 60, 5, 40), "0:1");
        Check.due("like ones on both sides, behind", pairByPlace(1, 5, 50, 5, 0, 5, 40, 5, 60), "0:2");
        Check.due("like ones at one place", pairByPlace(1, 5, 50, 5, 99, 5, 60, 5, 60), "0:2");
        Check.due("the same place", pairByPlace(1, 5, 50, 5, 51, 5, 50), "0:2");
        Check.due("both ends", pairByPlace(1, 5, 0, 5, 99, 5, 98), "0:2");
        Check.due("others stand aside", pairByPlace(1, 0, 50, 5, 10, 12, 10, 5, 99, 0, 11, 5, 90), "1:5");
        Check.due("the last of twelve", pairByPlace(1, 5, 0, 5, 9, 5, 9, 5, 9, 5, 9, 5, 9, 5, 9, 5, 9, 5, 9, 5, 9, 5, 9,
                5, 8), "0:11");
    }

    private static void strata() {
        Check.due("the least that has two", pairByStratum(5, 3, 5, 1, 5, 2, 5, 1, 5, 2), "1:3");
        Check.due("the very least", pairByStratum(5, 1, 5, 1, 5, 0, 5, 0), "2:3");
        Check.due("the greatest", pairByStratum(5, 0, 5, 1, 5, 2, 5, 3, 5, 3), "3:4");
        Check.due("one open is not two", pairByStratum(5, 0, 12, 0, 0, 0, 5, 3, 5, 3), "3:4");
        Check.due("three have two", pairByStratum(5, 1, 5, 0, 5, 0, 5, 0), "1:2");
        Check.due("the last two of twelve", pairByStratum(5, 1, 5, 2, 5, 3, 12, 0, 12, 0, 12, 0, 12, 0, 12, 0, 12, 0,
                12, 0, 5, 0, 5, 0), "10:11");
    }

    private static void noStratum() {
        Check.due("four strata", pairByStratum(5, 3, 5, 2, 5, 1, 5, 0), "0:1");
        Check.due("others stand aside", pairByStratum(12, 2, 5, 3, 0, 3, 5, 2, 5, 0), "1:3");
    }

    private static void far() {
        Check.due("below", pairByPlace(3, 5, 50, 5, 60, 5, 39, 5, 40), "0:2");
        Check.due("above", pairByPlace(3, 5, 50, 5, 40, 5, 61, 5, 60), "0:2");
        Check.due("the next one", pairByPlace(3, 5, 50, 5, 60, 5, 52), "0:1");
        Check.due("like ones on both sides", pairByPlace(3, 5, 50, 5, 60, 5, 40), "0:1");
        Check.due("like ones on both sides, behind", pairByPlace(3, 5, 50, 5, 50, 5, 40, 5, 60), "0:2");
        Check.due("like ones at one place", pairByPlace(3, 5, 50, 5, 55, 5, 60, 5, 60), "0:2");
        Check.due("all at the same place", pairByPlace(3, 5, 50, 5, 50, 5, 50), "0:1");
        Check.due("both ends", pairByPlace(3, 5, 0, 5, 98, 5, 99), "0:2");
        Check.due("others stand aside", pairByPlace(3, 0, 50, 5, 10, 12, 99, 5, 20, 0, 98, 5, 30), "1:5");
        Check.due("the last of twelve", pairByPlace(3, 5, 0, 5, 8, 5, 8, 5, 8, 5, 8, 5, 8, 5, 8, 5, 8, 5, 8, 5, 8, 5, 8,
                5, 9), "0:11");
    }

    private static void chance() {
        Check.due("most and next", pairByPlace(4, 3, 0, 5, 0, 7, 0), "2:1");
        Check.due("two like ones", pairByPlace(4, 3, 0, 7, 0, 7, 0, 5, 0), "1:2");
        Check.due("all like ones", pairByPlace(4, 7, 0, 7, 0, 7, 0), "0:1");
        Check.due("like ones of the others", pairByPlace(4, 2, 0, 9, 0, 4, 0, 4, 0), "1:2");
        Check.due("0 and 12 stand aside", pairByPlace(4, 12, 0, 0, 0, 1, 0, 11, 0), "3:2");
        Check.due("the last of twelve", pairByPlace(4, 2, 0, 1, 0, 1, 0, 1, 0, 1, 0, 1, 0, 1, 0, 1, 0, 1, 0, 1, 0, 1, 0,
                3, 0), "11:0");
        DuelSamples d = Calls.withChances(11, 10, 10);
        d.method(4);
        for (int seed = 0; seed < 20; seed++) {
            d.walk(seed);
            Check.due("first by " + seed, d.play(0, 0) + ":" + d.play(0, 1), "0:1");
            // The one that did not get it has 9 left, less than the third, though its chance was no less.
            Check.due("then by what is left, " + seed, d.play(1, 0) + ":" + d.play(1, 1), "2:" + (1 - d.play(0, 2)));
        }
    }

    /** One unit of a chance that is in the last sample. */
    private static DuelSamples oneIn(int chance, int size, int value) {
        DuelSamples d = new DuelSamples();
        d.unit(chance, 0, 0, size, value);
        for (int seed = 0; d.was(0) == 0 && seed < 200; seed++) {
            d.walk(seed);
        }
        return d;
    }

    private static void countedUp() {
        for (int c = 1; c <= 12; c++) {
            DuelSamples d = oneIn(c, 99, 98);
            Check.due("27720ths of chance " + c + " are whole", 12 * 27720 % c, 0);
            Check.due("values, chance " + c, d.counted(0), 98L * 12 * 27720 / c);
            Check.due("sizes, chance " + c, d.counted(1), 99L * 12 * 27720 / c);
        }
        DuelSamples d = new DuelSamples();
        d.unit(12, 0, 0, 99, 1);
        d.unit(12, 0, 0, 0, 99);
        d.unit(0, 0, 0, 50, 50);
        d.unit(12, 0, 0, 7, 0);
        Check.due("values of an empty sample", d.counted(0), 0);
        d.walk(0);
        Check.due("values together", d.counted(0), 100 * 27720);
        Check.due("sizes together", d.counted(1), 106 * 27720);
    }

    private static void miss() {
        Check.due("no unit", new DuelSamples().counted(2), 0);
        DuelSamples d = oneIn(4, 10, 0);
        Check.due("30 for 10", d.counted(2), 20 * 27720);
        for (int seed = 0; d.was(0) == 1 && seed < 200; seed++) {
            d.walk(seed);
        }
        Check.due("0 for 10", d.counted(2), 10 * 27720);
        DuelSamples e = new DuelSamples();
        e.unit(12, 0, 0, 7, 3);
        e.unit(0, 0, 0, 50, 60);
        Check.due("of an empty sample", e.counted(2), 7 * 27720);
        e.walk(0);
        Check.due("of chance 0 there is nothing to meet", e.counted(2), 0);
        Check.due("the most", oneIn(1, 99, 0).counted(2), 99L * 11 * 27720);
    }
}
