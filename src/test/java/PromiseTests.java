/** For each promise: ordinary inputs, the edges that the document names, and wrong inputs. */
public final class PromiseTests {
    private static final int BAD = -2;
    private static final int FULL = -4;
    private static final int[] MOST = {12, 99, 3, 99, 99};

    private PromiseTests() {
    }

    public static void main(String[] args) {
        constants();
        newObject();
        unit();
        sets();
        empties();
        draw();
        of();
        all();
        method();
        walk();
        walkByMethods();
        was();
        play();
        counted();
        inside();
        spread();
        often();
        both();
        best();
        many();
        sizes();
        can();
        least();
        type();
        clear();
        says();
        faults();
        answer();
        told();
        digest();
        refusedChangesNothing();
        Check.end("PromiseTests");
    }

    // ---- helpers

    private static void types(DuelSamples d, String text) {
        d.clear();
        for (int i = 0; i < text.length(); i++) {
            d.type(text.charAt(i));
        }
    }

    private static int tells(DuelSamples d, String text) {
        types(d, text);
        return d.says();
    }

    private static String reply(DuelSamples d) {
        StringBuilder signs = new StringBuilder();
        for (int k = 0; k < d.answer(-1); k++) {
            signs.append((char) d.answer(k));
        }
        return signs.toString();
    }

    private static DuelSamples withChances(int... chances) {
        DuelSamples d = new DuelSamples();
        for (int c : chances) {
            d.unit(c, 0, 0, 1, 1);
        }
        return d;
    }

    private static String plays(DuelSamples d) {
        StringBuilder all = new StringBuilder();
        for (int k = 0; k < d.was(1); k++) {
            all.append(k == 0 ? "" : " ").append(d.play(k, 0)).append(':').append(d.play(k, 1))
                    .append('=').append(d.play(k, 2));
        }
        return all.toString();
    }

    /** The r of each play by a seed, told by the document, worked out here by itself. */
    private static long[] xs(long seed, int n) {
        long[] row = new long[n];
        java.math.BigInteger x = java.math.BigInteger.valueOf(seed);
        for (int i = 0; i < n; i++) {
            x = x.multiply(java.math.BigInteger.valueOf(1103515245)).add(java.math.BigInteger.valueOf(12345))
                    .mod(java.math.BigInteger.ONE.shiftLeft(31));
            row[i] = x.longValue();
        }
        return row;
    }

    // ---- the promises

    private static void constants() {
        Check.due("NONE", DuelSamples.NONE, -1);
        Check.due("BAD", DuelSamples.BAD, -2);
        Check.due("NO", DuelSamples.NO, -3);
        Check.due("FULL", DuelSamples.FULL, -4);
    }

    private static void newObject() {
        DuelSamples d = new DuelSamples();
        for (int what = 0; what <= 6; what++) {
            Check.due("1 new told " + what, d.told(what), 0);
        }
        for (int what = 0; what <= 3; what++) {
            Check.due("1 new was " + what, d.was(what), 0);
            Check.due("1 new all " + what, d.all(what), 0);
            Check.due("1 new inside " + what, d.inside(what), 0);
        }
        Check.due("1 new play", d.play(0, 0), -1);
        Check.due("1 new counted", d.counted(2), 0);
        Check.due("1 new many", d.many(), 1);
        Check.due("1 new answer", d.answer(-1), 0);
        Check.due("1 new clear", d.clear(), 0);
        Check.due("1 new method", d.method(0), 0);
    }

    private static void unit() {
        DuelSamples d = new DuelSamples();
        int[][] wrong = {{-1, 0, 0, 0, 0}, {13, 0, 0, 0, 0}, {0, -1, 0, 0, 0}, {0, 100, 0, 0, 0}, {0, 0, -1, 0, 0},
            {0, 0, 4, 0, 0}, {0, 0, 0, -1, 0}, {0, 0, 0, 100, 0}, {0, 0, 0, 0, -1}, {0, 0, 0, 0, 100},
            {Integer.MIN_VALUE, 0, 0, 0, 0}, {0, Integer.MAX_VALUE, 0, 0, 0}};
        for (int[] w : wrong) {
            Check.due("2 unit BAD", d.unit(w[0], w[1], w[2], w[3], w[4]), BAD);
        }
        Check.due("2 none came", d.told(4), 0);
        for (int u = 0; u < 12; u++) {
            Check.due("2 unit", d.unit(12 - u, 99 - u, u % 4, 88 + u, u), u);
        }
        for (int u = 0; u < 12; u++) {
            Check.due("2 chance", d.of(u, 0), 12 - u);
            Check.due("2 place", d.of(u, 1), 99 - u);
            Check.due("2 stratum", d.of(u, 2), u % 4);
            Check.due("2 size", d.of(u, 3), 88 + u);
            Check.due("2 value", d.of(u, 4), u);
            Check.due("2 in", d.of(u, 5), 0);
        }
        Check.due("2 unit FULL", d.unit(0, 0, 0, 0, 0), FULL);
        Check.due("2 unit BAD ahead of FULL", d.unit(13, 0, 0, 0, 0), BAD);
        Check.due("2 how often BAD", d.told(0), wrong.length + 1);
        Check.due("2 how often FULL", d.told(2), 1);
        Check.due("2 units", d.told(4), 12);
        Check.due("2 most", new DuelSamples().unit(12, 99, 3, 99, 99), 0);
    }

    private static void sets() {
        DuelSamples d = new DuelSamples();
        Check.due("3 no unit", d.sets(0, 0, 0), BAD);
        d.unit(1, 2, 3, 4, 5);
        d.unit(6, 7, 0, 9, 10);
        for (int what = 0; what < 5; what++) {
            Check.due("3 too much", d.sets(0, what, MOST[what] + 1), BAD);
            Check.due("3 too little", d.sets(0, what, -1), BAD);
            Check.due("3 was", d.sets(0, what, MOST[what]), what + 1);
            Check.due("3 is", d.of(0, what), MOST[what]);
            Check.due("3 was most", d.sets(0, what, 0), MOST[what]);
            Check.due("3 is 0", d.of(0, what), 0);
        }
        Check.due("3 the other stays", d.of(1, 0), 6);
        Check.due("3 the other stays", d.of(1, 4), 10);
        int[][] wrong = {{2, 0, 0}, {-1, 0, 0}, {0, 5, 0}, {0, -1, 0}, {Integer.MAX_VALUE, 0, 0},
            {0, Integer.MIN_VALUE, 0}};
        for (int[] w : wrong) {
            Check.due("3 sets BAD", d.sets(w[0], w[1], w[2]), BAD);
        }
        Check.due("3 how often BAD", d.told(0), 1 + 10 + wrong.length);
    }

    /** As at first: no walk is left of which anything could be told. */
    private static void noWalk(String where, DuelSamples d) {
        for (int what = 0; what <= 3; what++) {
            Check.due(where + " was(" + what + ")", d.was(what), 0);
        }
        for (int k = 0; k < 12; k++) {
            for (int what = 0; what <= 2; what++) {
                Check.due(where + " play(" + k + ", " + what + ")", d.play(k, what), -1);
            }
        }
    }

    private static void empties() {
        DuelSamples d = withChances(12, 12, 6, 5, 11, 4);
        d.walk(0);
        Check.due("4 plays ahead", d.was(1), 4);
        Check.due("4 by 12 or less ahead", d.was(2), 1);
        Check.due("4 by more ahead", d.was(3), 2);
        Check.due("4 sample ahead", d.was(0) & 3, 3);
        Check.due("4 empties", d.empties(), 6);
        Check.due("4 units", d.told(4), 0);
        Check.due("4 like a new object", d.digest(), new DuelSamples().digest());
        noWalk("4 emptied:", d);
        Check.due("4 empties again", d.empties(), 0);
        Check.due("4 of none", d.of(0, 0), BAD);
        Check.due("4 the next unit", d.unit(12, 0, 0, 0, 0), 0);
        Check.due("4 is not in", d.of(0, 5), 0);
        Check.due("4 many", d.many(), 1);
        noWalk("4 a unit came:", d);
        d.walk(0);
        Check.due("4 a walk again", d.was(0), 1);
        DuelSamples told = new DuelSamples();
        told.draw(0, 2);
        told.walk(0);
        told.empties();
        Check.due("4 the digest of issue 5", told.digest(), -3786432598323252749L);
    }

    private static void draw() {
        DuelSamples d = withChances(12, 6, 5, 11, 4);
        d.walk(5);
        Check.due("5 plays ahead", d.was(1), 4);
        long[] x = xs(999999, 12);
        int together = 0;
        for (long v : x) {
            together += (int) (v / 65536 % 13);
        }
        Check.due("5 draw", d.draw(999999, 12), together);
        for (int u = 0; u < 12; u++) {
            Check.due("5 chance", d.of(u, 0), x[u] / 65536 % 13);
            Check.due("5 place", d.of(u, 1), x[u] / 1024 % 100);
            Check.due("5 stratum", d.of(u, 2), x[u] / 32768 % 4);
            Check.due("5 size", d.of(u, 3), x[u] / 4096 % 100);
            Check.due("5 value", d.of(u, 4), x[u] / 512 % 100);
            Check.due("5 in", d.of(u, 5), 0);
        }
        noWalk("5 drawn:", d);
        Check.due("5 draw(1, 1)", d.draw(1, 1), 3);
        Check.due("5 units", d.told(4), 1);
        Check.due("5 place of it", d.of(0, 1), 63);
        Check.due("5 stratum of it", d.of(0, 2), 0);
        Check.due("5 size of it", d.of(0, 3), 15);
        Check.due("5 value of it", d.of(0, 4), 27);
        d.sets(0, 0, 12);
        d.unit(6, 0, 0, 0, 0);
        d.walk(0);
        int sample = d.was(0);
        String plays = plays(d);
        int[][] wrong = {{-1, 1}, {1000000, 1}, {0, -1}, {0, 13}, {Integer.MAX_VALUE, 1}, {0, Integer.MIN_VALUE}};
        for (int[] w : wrong) {
            Check.due("5 draw BAD", d.draw(w[0], w[1]), BAD);
        }
        Check.due("5 how often BAD", d.told(0), wrong.length);
        Check.due("5 units stay", d.told(4), 2);
        Check.due("5 sample stays", d.was(0), sample);
        Check.due("5 plays stay", plays(d), plays);
        Check.due("5 there was one", d.was(1), 1);
        Check.due("5 draw none", d.draw(0, 0), 0);
        Check.due("5 no units", d.told(4), 0);
        noWalk("5 none drawn:", d);
    }

    private static void of() {
        DuelSamples d = new DuelSamples();
        d.unit(12, 20, 3, 40, 50);
        d.unit(0, 21, 2, 41, 51);
        Check.due("6 not in yet", d.of(0, 5), 0);
        d.walk(9);
        int[][] want = {{12, 20, 3, 40, 50, 1}, {0, 21, 2, 41, 51, 0}};
        for (int u = 0; u < 2; u++) {
            for (int what = 0; what < 6; what++) {
                Check.due("6 of " + u + " " + what, d.of(u, what), want[u][what]);
            }
        }
        Check.due("6 of BAD", d.of(2, 0), BAD);
        Check.due("6 of BAD", d.of(-1, 0), BAD);
        Check.due("6 of BAD", d.of(0, 6), BAD);
        Check.due("6 of BAD", d.of(0, -1), BAD);
        Check.due("6 how often BAD", d.told(0), 4);
        d.sets(0, 0, 0);
        Check.due("6 set otherwise, still in", d.of(0, 5), 1);
    }

    private static void all() {
        DuelSamples d = new DuelSamples();
        d.unit(12, 1, 0, 10, 20);
        d.unit(0, 1, 0, 99, 98);
        d.unit(1, 1, 0, 5, 7);
        d.unit(11, 1, 0, 3, 1);
        Check.due("7 chances", d.all(0), 24);
        Check.due("7 sizes", d.all(1), 18);
        Check.due("7 values", d.all(2), 28);
        Check.due("7 open", d.all(3), 2);
        d.walk(1);
        Check.due("7 open at the beginning", d.all(3), 2);
        Check.due("7 the first one is open", withChances(1, 0, 12).all(3), 1);
        Check.due("7 BAD", d.all(4), BAD);
        Check.due("7 BAD", d.all(-1), BAD);
        Check.due("7 how often BAD", d.told(0), 2);
    }

    private static void method() {
        DuelSamples d = new DuelSamples();
        for (int k = 1; k < 5; k++) {
            Check.due("8 method", d.method(k), k - 1);
            Check.due("8 told", d.told(5), k);
        }
        Check.due("8 BAD", d.method(5), BAD);
        Check.due("8 BAD", d.method(-1), BAD);
        Check.due("8 stays", d.told(5), 4);
        Check.due("8 back", d.method(0), 4);
        Check.due("8 how often BAD", d.told(0), 2);
    }

    private static void walk() {
        DuelSamples d = withChances(4, 2);
        for (int seed = 0; seed < 40; seed++) {
            long[] x = xs(seed, 2);
            boolean first = x[0] / 65536 % 6 < 4;
            boolean in = x[1] / 65536 % 12 < 6;
            Check.due("9 walk by 12 or less", d.walk(seed), in ? 1 : 0);
            Check.due("9 sample", d.was(0), !in ? 0 : first ? 1 : 2);
        }
        d = withChances(10, 8);
        for (int seed = 0; seed < 40; seed++) {
            long[] x = xs(seed, 2);
            boolean first = x[0] / 65536 % 6 < 4;
            boolean in = x[1] / 65536 % 12 < 6;
            Check.due("9 walk by more", d.walk(seed), in ? 2 : 1);
            Check.due("9 sample", d.was(0), in ? 3 : first ? 1 : 2);
        }
        d = withChances(5, 7);
        for (int seed = 999980; seed < 1000000; seed++) {
            boolean first = xs(seed, 1)[0] / 65536 % 12 < 5;
            Check.due("9 walk by just 12", d.walk(seed), 1);
            Check.due("9 sample", d.was(0), first ? 1 : 2);
            Check.due("9 no last one", d.was(1), 1);
        }
        Check.due("9 BAD", d.walk(-1), BAD);
        Check.due("9 BAD", d.walk(1000000), BAD);
        Check.due("9 how often BAD", d.told(0), 2);
        d = withChances(0, 12, 0, 12, 12);
        Check.due("9 no play", d.walk(77), 3);
        Check.due("9 whole ones", d.was(0), 26);
        Check.due("9 none", new DuelSamples().walk(0), 0);
    }

    /** Who plays whom first; then again with unit 1 whole and the far ones set otherwise. */
    private static void walkByMethods() {
        int[] chances = {3, 5, 5, 2, 4, 5};
        int[] places = {50, 52, 48, 10, 90, 52};
        int[] strata = {3, 1, 2, 1, 2, 0};
        DuelSamples d = new DuelSamples();
        for (int i = 0; i < 6; i++) {
            d.unit(chances[i], places[i], strata[i], 1, 1);
        }
        int[][] firstTwo = {{0, 1}, {0, 1}, {1, 3}, {0, 3}, {1, 2}};
        for (int k = 0; k < 5; k++) {
            d.method(k);
            d.walk(1);
            Check.due("9 method " + k + " u", d.play(0, 0), firstTwo[k][0]);
            Check.due("9 method " + k + " v", d.play(0, 1), firstTwo[k][1]);
        }
        d.sets(1, 0, 12);
        d.sets(3, 1, 9);
        d.sets(4, 1, 91);
        int[][] next = {{0, 2}, {0, 2}, {2, 4}, {0, 3}, {2, 5}};
        for (int k = 0; k < 5; k++) {
            d.method(k);
            d.walk(1);
            Check.due("9 method " + k + " u then", d.play(0, 0), next[k][0]);
            Check.due("9 method " + k + " v then", d.play(0, 1), next[k][1]);
        }
        d.method(2);
        d.sets(2, 2, 0);
        d.sets(4, 0, 0);
        d.sets(5, 2, 2);
        d.walk(3);
        Check.due("9 strata without two: the two least", plays(d).substring(0, 3), "0:2");
        d.sets(5, 2, 3);
        d.walk(3);
        Check.due("9 the last stratum has two", plays(d).substring(0, 3), "0:5");
        d.sets(3, 2, 0);
        d.walk(3);
        Check.due("9 the least stratum has two", plays(d).substring(0, 3), "2:3");
    }

    private static void was() {
        DuelSamples d = withChances(6, 5, 12, 11, 4);
        d.walk(2);
        Check.due("10 plays", d.was(1), 4);
        Check.due("10 by 12 or less", d.was(2), 1);
        Check.due("10 by more", d.was(3), 2);
        int sample = d.was(0);
        Check.due("10 bits", Integer.bitCount(sample), d.walk(2));
        Check.due("10 just 12 is 12 or less", walked(6, 6).was(2), 1);
        Check.due("10 13 is more", walked(6, 7).was(3), 1);
        Check.due("10 13 is not less", walked(6, 7).was(2), 0);
        Check.due("10 one alone is neither", walked(6).was(2) + walked(6).was(3), 0);
        Check.due("10 one alone plays", walked(6).was(1), 1);
        Check.due("10 BAD", d.was(4), BAD);
        Check.due("10 BAD", d.was(-1), BAD);
        Check.due("10 how often BAD", d.told(0), 2);
        d.walk(-1);
        Check.due("10 a refused walk is none", d.was(0), sample);
    }

    private static DuelSamples walked(int... chances) {
        DuelSamples d = withChances(chances);
        d.walk(1);
        return d;
    }

    private static void play() {
        DuelSamples d = withChances(3, 4);
        boolean seenWon = false;
        boolean seenLost = false;
        for (int seed = 0; seed < 30; seed++) {
            d.walk(seed);
            long[] x = xs(seed, 2);
            int winner = x[0] / 65536 % 7 < 3 ? 0 : 1;
            boolean in = x[1] / 65536 % 12 < 7;
            Check.due("11 plays", plays(d), "0:1=" + winner + " " + winner + ":-1=" + (in ? winner : -1));
            seenWon |= in;
            seenLost |= !in;
        }
        Check.holds("11 both ends of the last one were seen", seenWon && seenLost);
        Check.due("11 not so many", d.play(2, 0), -1);
        Check.due("11 not so many", d.play(Integer.MAX_VALUE, 2), -1);
        Check.due("11 BAD", d.play(-1, 0), BAD);
        Check.due("11 BAD", d.play(Integer.MIN_VALUE, 0), BAD);
        Check.due("11 BAD", d.play(0, 3), BAD);
        Check.due("11 BAD", d.play(0, -1), BAD);
        Check.due("11 BAD ahead of NONE", d.play(99, 3), BAD);
        Check.due("11 how often BAD", d.told(0), 5);
        d = withChances(1, 1, 1, 1, 1, 1, 1, 1, 1, 1, 1, 5);
        d.walk(4);
        Check.due("11 twelve plays", d.was(1), 12);
        Check.due("11 the twelfth is alone", d.play(11, 1), -1);
        Check.due("11 no thirteenth", d.play(12, 1), -1);
    }

    private static void counted() {
        DuelSamples d = new DuelSamples();
        d.unit(12, 0, 0, 7, 3);
        d.unit(0, 0, 0, 50, 60);
        Check.due("12 no walk: sizes", d.counted(1), 0);
        Check.due("12 no walk: miss", d.counted(2), 7 * 27720);
        d.walk(0);
        Check.due("12 values", d.counted(0), 3 * 27720);
        Check.due("12 sizes", d.counted(1), 7 * 27720);
        Check.due("12 miss", d.counted(2), 0);
        for (int c = 1; c <= 12; c++) {
            d.sets(0, 0, c);
            long sizes = 7L * 12 * 27720 / c;
            Check.due("12 as it is now", d.counted(1), sizes);
            Check.due("12 value as it is now", d.counted(0), 3L * 12 * 27720 / c);
            Check.due("12 miss as it is now", d.counted(2), Math.abs(sizes - 7 * 27720));
        }
        d.sets(0, 0, 0);
        Check.due("12 of chance 0", d.counted(0), 0);
        Check.due("12 of chance 0", d.counted(1), 0);
        Check.due("12 of chance 0", d.counted(2), 0);
        d.sets(0, 0, 1);
        d.sets(0, 3, 99);
        d.sets(0, 4, 99);
        Check.due("12 much", d.counted(0), 99L * 12 * 27720);
        d.sets(1, 0, 5);
        Check.due("12 who was not in counts for all", d.counted(2), 99L * 12 * 27720 - 149L * 27720);
        Check.due("12 BAD", d.counted(3), BAD);
        Check.due("12 BAD", d.counted(-1), BAD);
        Check.due("12 how often BAD", d.told(0), 2);
    }

    private static void inside() {
        DuelSamples d = new DuelSamples();
        d.unit(12, 0, 1, 0, 0);
        d.unit(12, 0, 1, 0, 0);
        d.unit(0, 0, 1, 0, 0);
        d.unit(12, 0, 3, 0, 0);
        Check.due("13 ahead of a walk", d.inside(1), 0);
        d.walk(0);
        int[] want = {0, 2, 0, 1};
        for (int t = 0; t < 4; t++) {
            Check.due("13 stratum " + t, d.inside(t), want[t]);
        }
        d.sets(0, 2, 0);
        Check.due("13 as it is now", d.inside(0), 1);
        Check.due("13 as it is now", d.inside(1), 1);
        Check.due("13 BAD", d.inside(4), BAD);
        Check.due("13 BAD", d.inside(-1), BAD);
        Check.due("13 how often BAD", d.told(0), 2);
    }

    private static void spread() {
        DuelSamples d = new DuelSamples();
        d.unit(12, 90, 0, 0, 0);
        Check.due("14 no sample", d.spread(), -1);
        d.walk(0);
        Check.due("14 one", d.spread(), -1);
        d.unit(12, 10, 0, 0, 0);
        d.walk(0);
        Check.due("14 two", d.spread(), 80);
        d.unit(12, 45, 0, 0, 0);
        d.unit(0, 44, 0, 0, 0);
        Check.due("14 the last sample", d.spread(), 80);
        d.walk(0);
        Check.due("14 three", d.spread(), 35);
        d.sets(1, 1, 90);
        Check.due("14 alike places", d.spread(), 0);
        d.sets(0, 1, 0);
        d.sets(1, 1, 99);
        d.sets(2, 1, 99);
        Check.due("14 alike behind", d.spread(), 0);
    }

    private static void often() {
        DuelSamples d = new DuelSamples();
        d.draw(7, 12);
        d.method(1);
        d.walk(3);
        long before = d.digest();
        int plays = d.play(0, 2);
        for (int u = 0; u < 12; u++) {
            Check.due("15 often " + u, d.often(u, 40, 25), often(d, 1 << u, 40, 25));
        }
        d.walk(3);
        Check.due("15 the last sample stays", d.often(0, 0, 60) >= 0 ? d.digest() : 0, before);
        Check.due("15 the plays stay", d.play(0, 2), plays);
        Check.due("15 most", d.often(0, 999940, 60) >= 0 ? 1 : 0, 1);
        Check.due("15 the last seed", d.often(0, 999999, 1) >= 0 ? 1 : 0, 1);
        int[][] wrong = {{12, 0, 1}, {-1, 0, 1}, {0, -1, 1}, {0, 1000000, 1}, {0, 0, 0}, {0, 0, 61}, {0, 0, -1},
            {0, 999941, 60}, {0, 999999, 2}, {0, Integer.MAX_VALUE, 60}, {0, 5, Integer.MAX_VALUE}};
        for (int[] w : wrong) {
            Check.due("15 BAD", d.often(w[0], w[1], w[2]), BAD);
        }
        Check.due("15 how often BAD", d.told(0), wrong.length);
        Check.due("15 no unit", new DuelSamples().often(0, 0, 1), BAD);
    }

    private static int often(DuelSamples d, int units, int seed, int n) {
        int found = 0;
        for (int s = seed; s < seed + n; s++) {
            d.walk(s);
            found += (d.was(0) & units) == units ? 1 : 0;
        }
        return found;
    }

    private static void both() {
        DuelSamples d = new DuelSamples();
        d.draw(42, 12);
        d.method(3);
        for (int v = 1; v < 12; v++) {
            Check.due("16 both 0 " + v, d.both(0, v, 100, 10), often(d, 1 | 1 << v, 100, 10));
            Check.due("16 both " + v + " 0", d.both(v, 0, 100, 10), often(d, 1 | 1 << v, 100, 10));
        }
        d.walk(8);
        int sample = d.was(0);
        d.both(0, 1, 0, 60);
        Check.due("16 the last sample stays", d.was(0), sample);
        int[][] wrong = {{0, 12, 0, 1}, {12, 0, 0, 1}, {-1, 0, 0, 1}, {0, -1, 0, 1}, {3, 3, 0, 1}, {0, 1, -1, 1},
            {0, 1, 1000000, 1}, {0, 1, 0, 0}, {0, 1, 0, 61}, {0, 1, 999999, 2}};
        for (int[] w : wrong) {
            Check.due("16 BAD", d.both(w[0], w[1], w[2], w[3]), BAD);
        }
        Check.due("16 how often BAD", d.told(0), wrong.length);
    }

    private static void best() {
        DuelSamples d = new DuelSamples();
        d.draw(9, 12);
        for (int k = 0; k < 5; k++) {
            d.method(k);
            long least = Long.MAX_VALUE;
            int at = -1;
            for (int s = 300; s < 330; s++) {
                d.walk(s);
                if (d.counted(2) < least) {
                    least = d.counted(2);
                    at = s;
                }
            }
            Check.due("17 seed", d.best(300, 30, 0), at);
            Check.due("17 miss", d.best(300, 30, 1), least);
        }
        d.walk(8);
        int sample = d.was(0);
        d.best(0, 60, 0);
        Check.due("17 the last sample stays", d.was(0), sample);
        Check.due("17 one seed", d.best(999999, 1, 0), 999999);
        Check.due("17 of like ones the least", withChances(12).best(17, 60, 0), 17);
        int[][] wrong = {{-1, 1, 0}, {1000000, 1, 0}, {0, 0, 0}, {0, 61, 0}, {999999, 2, 0}, {0, 1, 2}, {0, 1, -1}};
        for (int[] w : wrong) {
            Check.due("17 BAD", d.best(w[0], w[1], w[2]), BAD);
        }
        Check.due("17 how often BAD", d.told(0), wrong.length);
    }

    private static void many() {
        Check.due("18 none", new DuelSamples().many(), 1);
        Check.due("18 whole", withChances(12, 0, 12).many(), 1);
        Check.due("18 one open", withChances(5).many(), 2);
        Check.due("18 two by 12", withChances(5, 7).many(), 2);
        Check.due("18 two by less", withChances(5, 5).many(), 3);
        Check.due("18 two by more", withChances(7, 7).many(), 3);
        Check.due("18 three of 4", withChances(4, 4, 4).many(), 3);
        Check.due("18 pairs", withChances(6, 6, 6, 6, 6, 6, 6, 6, 6, 6, 6, 6).many(), 64);
        Check.due("18 one of twelve", withChances(1, 1, 1, 1, 1, 1, 1, 1, 1, 1, 1, 1).many(), 12);
        Check.due("18 all but one", withChances(11, 11, 11, 11, 11, 11, 11, 11, 11, 11, 11, 11).many(), 12);
        DuelSamples d = withChances(6, 3, 6, 9);
        Check.due("18 row", d.many(), 5);
        d.method(4);
        Check.due("18 chance", d.many(), 4 + 1);
        d.method(2);
        d.sets(1, 2, 1);
        d.sets(3, 2, 1);
        Check.due("18 strata: a new stratum is seen", d.many(), 4);
        d.sets(1, 0, 0);
        d.sets(3, 0, 12);
        Check.due("18 a new chance is seen", d.many(), 2);
        d.unit(1, 0, 0, 0, 0);
        Check.due("18 a new unit is seen", d.many(), 4);
        d.empties();
        Check.due("18 no unit is seen", d.many(), 1);
        d.walk(0);
        d.draw(7, 12);
        d.method(0);
        Check.due("18 drawn ones are seen", d.many(), 56);
        d.walk(0);
        int sample = d.was(0);
        d.method(1);
        Check.due("18 near", d.many(), 88);
        Check.due("18 the last sample stays", d.was(0), sample);
    }

    private static void sizes() {
        DuelSamples d = withChances(5, 5, 12, 0);
        Check.due("19 fewest", d.sizes(0), 1);
        Check.due("19 most", d.sizes(1), 2);
        d.sets(0, 0, 7);
        Check.due("19 fewest whole", d.sizes(0), 2);
        Check.due("19 most whole", d.sizes(1), 2);
        Check.due("19 none", new DuelSamples().sizes(1), 0);
        Check.due("19 none or one", withChances(1).sizes(0), 0);
        Check.due("19 none or one", withChances(11).sizes(1), 1);
        Check.due("19 all", withChances(12, 12, 12, 12, 12, 12, 12, 12, 12, 12, 12, 12).sizes(0), 12);
        Check.due("19 BAD", d.sizes(2), BAD);
        Check.due("19 BAD", d.sizes(-1), BAD);
        Check.due("19 how often BAD", d.told(0), 2);
    }

    private static void can() {
        DuelSamples d = withChances(6, 6, 6, 6, 0, 12);
        int[][] want = {{1, 0, 1, 1, 0, 1}, {0, 1, 1, 1, 0, 1}, {1, 1, 1, 0, 0, 1}, {1, 1, 0, 1, 0, 1},
            {0, 0, 0, 0, 0, 0}, {1, 1, 1, 1, 0, 1}};
        for (int u = 0; u < 6; u++) {
            for (int v = 0; v < 6; v++) {
                Check.due("20 can " + u + " " + v, d.can(u, v), want[u][v]);
            }
        }
        d.sets(0, 2, 1);
        d.sets(2, 2, 1);
        d.method(2);
        Check.due("20 by strata", d.can(0, 2), 0);
        Check.due("20 by strata", d.can(0, 1), 1);
        int[][] wrong = {{6, 0}, {0, 6}, {-1, 0}, {0, -1}, {Integer.MAX_VALUE, 0}};
        for (int[] w : wrong) {
            Check.due("20 BAD", d.can(w[0], w[1]), BAD);
        }
        Check.due("20 how often BAD", d.told(0), wrong.length);
    }

    private static void least() {
        DuelSamples d = new DuelSamples();
        Check.due("21 none", d.least(), 0);
        d.unit(6, 0, 0, 10, 0);
        d.unit(6, 0, 0, 30, 0);
        Check.due("21 like 40", d.least(), 20 * 27720);
        d.sets(0, 3, 20);
        Check.due("21 a new size is seen", d.least(), 10 * 27720);
        d.unit(0, 0, 0, 99, 0);
        Check.due("21 of chance 0 does not count", d.least(), 10 * 27720);
        d.sets(2, 0, 1);
        Check.due("21 of 60, 40, 149", d.least(), (149 - 60) * 27720);
        d.walk(3);
        Check.due("21 the last sample is nothing to it", d.least(), (149 - 60) * 27720);
    }

    private static void type() {
        DuelSamples d = new DuelSamples();
        Check.due("22 BAD", d.type(-1), BAD);
        Check.due("22 BAD", d.type(128), BAD);
        for (int k = 0; k < 120; k++) {
            Check.due("22 type", d.type(k == 0 ? 127 : k == 1 ? 0 : 32), k + 1);
        }
        Check.due("22 FULL", d.type(32), FULL);
        Check.due("22 BAD ahead of FULL", d.type(200), BAD);
        Check.due("22 bytes", d.told(3), 120);
        Check.due("22 how often BAD", d.told(0), 3);
        Check.due("22 how often FULL", d.told(2), 1);
    }

    private static void clear() {
        DuelSamples d = new DuelSamples();
        Check.due("23 clear", d.clear(), 0);
        types(d, "row;");
        Check.due("23 clear", d.clear(), 4);
        Check.due("23 bytes", d.told(3), 0);
        Check.due("23 clear again", d.clear(), 0);
        Check.due("23 nothing to say", d.says(), -10);
    }

    private static void says() {
        DuelSamples d = new DuelSamples();
        Check.due("24 unit", tells(d, "unit 12 34 3 56 78;"), 1);
        Check.due("24 its number", reply(d), "0");
        int[] want = {12, 34, 3, 56, 78, 0};
        for (int what = 0; what < 6; what++) {
            Check.due("24 unit is so", d.of(0, what), want[what]);
        }
        Check.due("24 sets", tells(d, "turn 0 1;place 0 2;stratum 0 0;size 0 4;value 0 5;"), 5);
        Check.due("24 what they were", reply(d), "12 34 3 56 78");
        int[] then = {1, 2, 0, 4, 5, 0};
        for (int what = 0; what < 6; what++) {
            Check.due("24 set so", d.of(0, what), then[what]);
        }
        Check.due("24 methods", tells(d, "near;strata;far;chance;row;chance;"), 6);
        Check.due("24 words ahead", reply(d), "row near strata far chance row");
        Check.due("24 the method", d.told(5), 4);
        Check.due("24 the text stays", d.told(3), 34);
        Check.due("24 again", d.says(), 6);
        Check.due("24 from the last one", reply(d), "chance near strata far chance row");
        d.empties();
        Check.due("24 walk of none", tells(d, "walk 0;many;"), 2);
        Check.due("24 none", reply(d), "- 0");
        Check.due("24 twelve", tells(d, "unit12 0 0 0 0;unit12 0 0 0 0;unit12 0 0 0 0;unit12 0 0 0 0;unit12 0 0 0 0;"
                + "unit12 0 0 0 0;unit12 0 0 0 0;"), 7);
        Check.due("24 twelve", tells(d, "unit12 0 0 0 0;unit12 0 0 0 0;unit12 0 0 0 0;unit12 0 0 0 0;"
                + "unit 12 0 0 0 0;walk 999999;many;"), 7);
        Check.due("24 all in", reply(d), "7 8 9 10 11 0+1+2+3+4+5+6+7+8+9+10+11 12");
        Check.due("24 the last walk", d.was(0), 4095);
        Check.due("24 blanks", tells(d, "  turn   0    05  ;  row;  walk000007  ;  "), 3);
        Check.due("24 chance of it", d.of(0, 0), 5);
        DuelSamples e = withChances(5, 12, 12, 12, 12, 12, 12, 12, 12, 12, 12, 12);
        e.walk(7);
        Check.due("24 like walk", d.was(0), e.was(0));
        Check.due("24 plays like walk", d.was(1), e.was(1));
        walksInWords();
        Check.due("24 many is the last sample's", tells(d, "turn 1 0;many;"), 2);
        Check.due("24 many", reply(d), "12 " + Integer.bitCount(e.was(0)));
        d.walk(2);
        d.empties();
        Check.due("24 many of none", tells(d, "many;"), 1);
        Check.due("24 many of none", reply(d), "0");
        Check.due("24 thirty", tells(d, "row;far;".repeat(15)), 30);
        Check.due("24 nothing was refused", d.told(0) + d.told(1) + d.told(2), 0);
    }

    private static void walksInWords() {
        DuelSamples told = new DuelSamples();
        DuelSamples called = new DuelSamples();
        told.draw(21, 12);
        called.draw(21, 12);
        for (int seed = 0; seed < 8; seed++) {
            int n = called.walk(111 * seed);
            Check.due("24 walk and many", tells(told, "walk " + 111 * seed + ";many;"), 2);
            Check.due("24 its sample", told.was(0), called.was(0));
            Check.due("24 its plays", plays(told), plays(called));
            StringBuilder want = new StringBuilder();
            for (int u = 0; u < 12; u++) {
                want.append((called.was(0) >> u & 1) == 0 ? "" : (want.length() == 0 ? "" : "+") + u);
            }
            Check.due("24 in words", reply(told), want + " " + n);
        }
    }

    private static void fault(DuelSamples d, String text, int place) {
        types(d, text);
        long before = d.digest();
        Check.due("24 fault of '" + text + "'", d.says(), -10 - place);
        Check.due("24 nothing is done by '" + text + "'", d.digest(), before);
    }

    private static void faults() {
        DuelSamples d = new DuelSamples();
        tells(d, "unit 6 1 0 5 5;unit 6 9 1 5 5;walk 3;");
        String kept = reply(d);
        String[] early = {"", " ", "   ", "unit", "unit ", "unit 6", "unit 6 1 0 5", "unit 6 1 0 5 5",
            "unit 6 1 0 5 5 ", "row", "row ", "walk", "walk 1", "row;near", "turn 1", "turn 1 1"};
        for (String text : early) {
            fault(d, text, text.length());
        }
        String[] words = {"u", "uni", "units 6 1 0 5 5;", "Unit 6 1 0 5 5;", "rows;", "now;", "rew;", "rot;", "ro w;", "rowrow;", ";", "5;", "+",
            "(row);", "\t", "\u0000", "all;", "empties;"};
        for (String text : words) {
            fault(d, text, 0);
            fault(d, "  " + text, 2);
            fault(d, "row;" + text, 4);
        }
        fault(d, "unit 13 1 0 5 5;", 5);
        fault(d, "unit 6 100 0 5 5;", 7);
        fault(d, "unit 6 1 4 5 5;", 9);
        fault(d, "unit 6 1 0 100 5;", 11);
        fault(d, "unit 6 1 0 5 005;", 13);
        fault(d, "unit 6 1 0 5 5 5;", 15);
        fault(d, "unit 6 1 0 5;", 12);
        fault(d, "unit 012 1 0 5 5;", 5);
        fault(d, "unit x;", 5);
        fault(d, "unit row;", 5);
        fault(d, "unit -1;", 5);
        fault(d, "unit 6,1;", 6);
        fault(d, "row row;", 4);
        fault(d, "row 5;", 4);
        fault(d, "row.", 3);
        fault(d, "row;;", 4);
        fault(d, "many 0;", 5);
        fault(d, "walk;", 4);
        fault(d, "walk 1000000;", 5);
        fault(d, "walk 0000001;", 5);
        fault(d, "walk 99999999999999999999;", 5);
        fault(d, "walk 1 2;", 7);
        fault(d, "walk 1x;", 6);
        fault(d, "walk 1 ", 7);
        fault(d, "turn 2 0;", 5);
        fault(d, "turn 002 0;", 5);
        fault(d, "turn 1 13;", 7);
        fault(d, "place 1 100;", 8);
        fault(d, "stratum 1 4;", 10);
        fault(d, "size 1 100;", 7);
        fault(d, "value 1 100;", 8);
        fault(d, "value 99 0;", 6);
        fault(d, "unit 1 1 1 1 1;turn 3 0;", 20);
        fault(d, "turn 2 0;unit 1 1 1 1 1;", 5);
        fault(d, "row;turn 2 0;", 9);
        fault(d, "near;unit 1 1 1 1 1;walk 5;many;x", 32);
        Check.due("24 the answer stays", reply(d), kept);
        Check.due("24 units by then", tells(d, "unit 1 2 3 4 5;turn 2 0;"), 2);
        Check.due("24 units by then", reply(d), "2 1");
        d.draw(1, 11);
        fault(d, "unit 1 1 1 1 1;unit 1 1 1 1 1;", 15);
        fault(d, "unit 1 1 1 1 1;row;unit 13", 19);
        Check.due("24 the twelfth", tells(d, "unit 1 1 1 1 1;"), 1);
        fault(d, "unit 1 1 1 1 1;", 0);
        fault(d, "unit 1", 0);
        fault(d, "unit", 0);
        fault(d, "turn 12 0;", 5);
        Check.due("24 the last of twelve", tells(d, "turn 11 0;"), 1);
        Check.due("24 by a fault nothing counts", d.told(0) + d.told(1) + d.told(2), 0);
    }

    private static void answer() {
        DuelSamples d = new DuelSamples();
        Check.due("25 empty", d.answer(-1), 0);
        Check.due("25 not so many", d.answer(0), -5);
        Check.due("25 BAD", d.answer(-2), -10);
        Check.due("25 BAD", d.answer(Integer.MIN_VALUE), -10);
        Check.due("25 how often BAD", d.told(0), 2);
        tells(d, "near;");
        Check.due("25 signs", d.answer(-1), 3);
        Check.due("25 r", d.answer(0), 'r');
        Check.due("25 w", d.answer(2), 'w');
        Check.due("25 not so many", d.answer(3), -5);
        Check.due("25 not so many", d.answer(Integer.MAX_VALUE), -5);
        DuelSamples e = withChances(12, 12, 12, 12, 12, 12, 12, 12, 12, 12, 12, 12);
        Check.due("25 much", tells(e, "walk1;".repeat(20)), 20);
        Check.due("25 300 signs", e.answer(-1), 300);
        String whole = "0+1+2+3+4+5+6+7+8+9+10+11 ".repeat(20);
        Check.due("25 the rest left out", reply(e), whole.substring(0, 300));
        Check.due("25 the last one", e.answer(299), whole.charAt(299));
        Check.due("25 no more", e.answer(300), -5);
        Check.due("25 less again", tells(e, "many;"), 1);
        Check.due("25 less again", reply(e), "12");
        Check.due("25 nothing behind", e.answer(2), -5);
    }

    private static void told() {
        DuelSamples d = new DuelSamples();
        Check.due("26 BAD", d.told(7), BAD);
        Check.due("26 BAD", d.told(-1), BAD);
        d.draw(3, 12);
        d.unit(0, 0, 0, 0, 0);
        d.method(3);
        tells(d, "many; walk 9 ;");
        int[] want = {2, 0, 1, 14, 12, 3, d.answer(-1)};
        for (int what = 0; what < 7; what++) {
            Check.due("26 told " + what, d.told(what), want[what]);
        }
        d.clear();
        Check.due("26 bytes", d.told(3), 0);
    }

    private static void digest() {
        Check.due("27 new", new DuelSamples().digest(), power(2029, 11));
        DuelSamples d = new DuelSamples();
        d.draw(5, 12);
        d.method(1);
        d.walk(6);
        d.unit(0, 0, 0, 0, 0);
        d.was(9);
        tells(d, "many;far;");
        long h = 2029;
        for (int what = 0; what <= 6; what++) {
            h = 31 * h + d.told(what);
        }
        for (int u = 0; u < 12; u++) {
            for (int what = 0; what <= 5; what++) {
                h = 31 * h + d.of(u, what);
            }
        }
        for (int what = 0; what <= 3; what++) {
            h = 31 * h + d.was(what);
        }
        for (char c : reply(d).toCharArray()) {
            h = 31 * h + c;
        }
        Check.due("27 digest", d.digest(), h);
        Check.due("27 digest changes nothing", d.digest(), h);
    }

    private static long power(long h, int times) {
        for (int k = 0; k < times; k++) {
            h *= 31;
        }
        return h;
    }

    private static void refusedChangesNothing() {
        DuelSamples d = new DuelSamples();
        d.draw(11, 12);
        d.walk(4);
        tells(d, "many;");
        long before = d.digest();
        int n = d.told(0);
        d.unit(13, 0, 0, 0, 0);
        d.sets(0, 0, 13);
        d.draw(-1, 12);
        d.of(12, 0);
        d.all(4);
        d.method(9);
        d.walk(-5);
        d.was(4);
        d.play(-1, 0);
        d.counted(3);
        d.inside(4);
        d.often(0, 0, 0);
        d.both(0, 0, 0, 1);
        d.best(0, 0, 0);
        d.sizes(2);
        d.can(12, 0);
        d.type(128);
        d.answer(-2);
        d.told(7);
        Check.due("refused 19 times", d.told(0), n + 19);
        // Behind told(0) the digest takes 6 more of told, 72 of units, 4 of was, and the signs.
        int behind = 6 + 72 + 4 + d.answer(-1);
        Check.due("refused changes how often alone", d.digest() - before, power(19, behind));
    }
}
