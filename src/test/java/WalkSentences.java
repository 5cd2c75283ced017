/** Promises 9 to 17: one walk, and many. */
final class WalkSentences {
    private WalkSentences() {
    }

    static void tell(Sentences doc) {
        doc.in("Promise 9");
        doc.says("A WALK: how many UNITS are in the SAMPLE, the last one now.", WalkSentences::walk);
        doc.says("BAD.", WalkSentences::walkBad);
        doc.in("Promise 10");
        doc.says("Of the last WALK: the SAMPLE (0, bits),", WalkSentences::wasSample);
        doc.says("PLAYS (1; the last one's, too),", WalkSentences::wasPlays);
        doc.says("how many of them were by 12 or less (2), by more (3).", WalkSentences::wasLessOrMore);
        doc.says("All 0 at first.", () -> Calls.noWalk(new DuelSamples()));
        doc.says("BAD.", WalkSentences::wasBad);
        doc.in("Promise 11");
        doc.says("PLAY k of the last WALK: u (0),", WalkSentences::playOfTheLast);
        doc.says("v (1; NONE: the last one alone),", WalkSentences::playAlone);
        doc.says("which one got it (2).", WalkSentences::playGot);
        doc.says("NONE: not so many.", WalkSentences::playNotSoMany);
        doc.says("BAD: k below 0, too.", WalkSentences::playBad);
        doc.in("Promise 12");
        doc.says("Of the last SAMPLE, in 27720ths: VALUES COUNTED UP (0), SIZES (1), MISS (2).",
                WalkSentences::counted);
        doc.says("(UNITS that were set otherwise since count as they are;", WalkSentences::countedAsTheyAre);
        doc.says("of CHANCE 0: 0.)", WalkSentences::countedOfChance0);
        doc.says("BAD.", WalkSentences::countedBad);
        doc.in("Promise 13");
        doc.says("UNITS of a STRATUM in the last SAMPLE.", WalkSentences::inside);
        doc.says("BAD.", WalkSentences::insideBad);
        doc.in("Promise 14");
        doc.says("The least distance by PLACE of two UNITS in the last SAMPLE;", WalkSentences::spread);
        doc.says("NONE: fewer than two.", WalkSentences::spreadNone);
        doc.in("Promise 15");
        doc.says("In how many of n (1 .. 60) WALKS by SEEDS from one on", WalkSentences::oftenCount);
        doc.says("(SEED and n at most 1000000 together)", WalkSentences::oftenTogether);
        doc.says("a UNIT is in.", WalkSentences::often);
        doc.says("BAD.", WalkSentences::oftenBad);
        doc.in("Promise 16");
        doc.says("So: in how many both of two UNITS are in.", WalkSentences::both);
        doc.says("BAD: alike, too.", WalkSentences::bothBad);
        doc.in("Promise 17");
        doc.says("So: the SEED of the least MISS (what 0; of like ones the least),", WalkSentences::bestSeed);
        doc.says("that MISS (1).", WalkSentences::bestMiss);
        doc.says("BAD.", WalkSentences::bestBad);
    }

    private static void walk() {
        Check.due("no unit", new DuelSamples().walk(0), 0);
        Check.due("none", Calls.withChances(0, 0).walk(0), 0);
        Check.due("twelve", Calls.withChances(Calls.ALL_WHOLE).walk(999999), 12);
        DuelSamples d = new DuelSamples();
        d.draw(8, 12);
        for (int seed = 0; seed < 30; seed++) {
            int n = d.walk(seed);
            Check.due("bits by " + seed, Integer.bitCount(d.was(0)), n);
            Check.due("many by " + seed, Calls.answered(d, "many;"), "" + n);
        }
        DuelSamples e = Calls.walked(12, 0);
        e.sets(0, 0, 0);
        e.sets(1, 0, 12);
        Check.due("the one ahead", e.was(0), 1);
        e.walk(5);
        Check.due("the last one now", e.was(0), 2);
    }

    private static void walkBad() {
        DuelSamples d = Calls.inUse();
        for (int seed : Calls.outside(999999)) {
            Calls.bad(d, "walk(" + seed + ")", () -> d.walk(seed));
        }
    }

    private static void wasSample() {
        Check.due("the first", Calls.walked(12, 0, 0).was(0), 1);
        Check.due("the third", Calls.walked(0, 0, 12).was(0), 4);
        Check.due("none", Calls.walked(0, 0, 0).was(0), 0);
        Check.due("the twelfth", Calls.walked(0, 0, 0, 0, 0, 0, 0, 0, 0, 0, 0, 12).was(0), 2048);
        Check.due("twelve", Calls.walked(Calls.ALL_WHOLE).was(0), 4095);
        DuelSamples d = Calls.walked(12, 0);
        d.unit(12, 0, 0, 0, 0);
        d.sets(0, 0, 0);
        Check.due("as it was", d.was(0), 1);
    }

    private static void wasPlays() {
        Check.due("none", Calls.walked(12, 0).was(1), 0);
        Check.due("one alone", Calls.walked(6).was(1), 1);
        Check.due("two by 12", Calls.walked(6, 6).was(1), 1);
        Check.due("two by 11, and one alone", Calls.walked(6, 5).was(1), 2);
        Check.due("two by 13, and one alone", Calls.walked(6, 7).was(1), 2);
        Check.due("twelve", Calls.walked(1, 1, 1, 1, 1, 1, 1, 1, 1, 1, 1, 5).was(1), 12);
        DuelSamples d = Calls.walked(6, 5);
        d.sets(0, 0, 12);
        d.sets(1, 0, 12);
        Check.due("as they were", d.was(1), 2);
        d.walk(1);
        Check.due("none of the one ahead", d.was(1), 0);
    }

    private static void lessOrMore(int less, int more, int... chances) {
        DuelSamples d = Calls.walked(chances);
        Check.due("by 12 or less", d.was(2), less);
        Check.due("by more", d.was(3), more);
    }

    private static void wasLessOrMore() {
        lessOrMore(0, 0);
        lessOrMore(0, 0, 12, 0);
        lessOrMore(0, 0, 6);
        lessOrMore(1, 0, 6, 5);
        lessOrMore(1, 0, 6, 6);
        lessOrMore(0, 1, 6, 7);
        lessOrMore(1, 2, 6, 5, 12, 11, 4);
        lessOrMore(11, 0, 1, 1, 1, 1, 1, 1, 1, 1, 1, 1, 1, 1);
        lessOrMore(1, 10, 11, 11, 11, 11, 11, 11, 11, 11, 11, 11, 11, 11);
    }

    private static void wasBad() {
        DuelSamples d = Calls.inUse();
        for (int what : Calls.outside(3)) {
            Calls.bad(d, "was(" + what + ")", () -> d.was(what));
        }
    }

    private static void playOfTheLast() {
        DuelSamples d = Calls.walked(12, 6, 6, 0, 6, 6);
        Check.due("u of the first", d.play(0, 0), 1);
        Check.due("u of the second", d.play(1, 0), 4);
        d.sets(1, 0, 12);
        d.sets(2, 0, 12);
        Check.due("as it was", d.play(0, 0), 1);
        d.walk(1);
        Check.due("of the last walk", d.play(0, 0), 4);
        DuelSamples e = Calls.walked(3, 4, 11);
        e.method(4);
        e.walk(1);
        Check.due("u may be behind v", e.play(0, 0) + ":" + e.play(0, 1), "2:1");
    }

    private static void playAlone() {
        Check.due("alone from the beginning", Calls.walked(12, 6).play(0, 1), Calls.NONE);
        Check.due("alone it is u", Calls.walked(12, 6).play(0, 0), 1);
        DuelSamples d = Calls.walked(6, 5);
        Check.due("two at first", d.play(0, 1), 1);
        Check.due("alone at last", d.play(1, 1), Calls.NONE);
        DuelSamples twelve = Calls.walked(1, 1, 1, 1, 1, 1, 1, 1, 1, 1, 1, 5);
        Check.due("the eleventh of twelve", twelve.play(10, 1), 11);
        Check.due("the twelfth is alone", twelve.play(11, 1), Calls.NONE);
        for (int k = 1; k <= 4; k++) {
            DuelSamples m = Calls.withChances(12, 0, 6);
            m.method(k);
            m.walk(1);
            Check.due("alone by method " + k, m.play(0, 0) + ":" + m.play(0, 1), "2:-1");
        }
    }

    private static void playGot() {
        DuelSamples d = Calls.withChances(3, 4);
        boolean[] seen = new boolean[4];
        for (int seed = 0; seed < 40; seed++) {
            d.walk(seed);
            long[] x = Calls.xs(seed, 2);
            int got = x[0] / 65536 % 7 < 3 ? 0 : 1;
            boolean in = x[1] / 65536 % 12 < 7;
            Check.due("plays by " + seed, Calls.plays(d), "0:1=" + got + " " + got + ":-1=" + (in ? got : Calls.NONE));
            seen[2 * got + (in ? 1 : 0)] = true;
        }
        for (int k = 0; k < 4; k++) {
            Check.holds("end " + k + " was met", seen[k]);
        }
    }

    private static void playNotSoMany() {
        DuelSamples d = Calls.walked(3, 4);
        for (int what = 0; what <= 2; what++) {
            for (int k : new int[] {2, 3, 12, Integer.MAX_VALUE}) {
                Check.due("play(" + k + ", " + what + ") of two", d.play(k, what), Calls.NONE);
            }
        }
        Check.holds("the last of two is there", d.play(1, 0) >= 0);
        DuelSamples twelve = Calls.walked(1, 1, 1, 1, 1, 1, 1, 1, 1, 1, 1, 5);
        Check.holds("the twelfth is there", twelve.play(11, 0) >= 0);
        Check.due("no thirteenth", twelve.play(12, 0), Calls.NONE);
        Check.due("without a walk", new DuelSamples().play(0, 0), Calls.NONE);
        Check.due("nothing was refused", d.told(0) + twelve.told(0), 0);
    }

    private static void playBad() {
        DuelSamples d = Calls.inUse();
        Calls.bad(d, "play(-1, 0)", () -> d.play(-1, 0));
        Calls.bad(d, "play(least, 0)", () -> d.play(Integer.MIN_VALUE, 0));
        for (int what : Calls.outside(2)) {
            Calls.bad(d, "play(0, " + what + ")", () -> d.play(0, what));
        }
        Calls.bad(d, "play(99, 3), BAD ahead of NONE", () -> d.play(99, 3));
    }

    private static void counted() {
        DuelSamples d = new DuelSamples();
        d.unit(12, 0, 0, 7, 3);
        d.unit(0, 0, 0, 50, 60);
        Check.due("without a walk, values", d.counted(0), 0);
        Check.due("without a walk, sizes", d.counted(1), 0);
        Check.due("without a walk, miss", d.counted(2), 7 * 27720);
        d.walk(0);
        Check.due("values", d.counted(0), 3 * 27720);
        Check.due("sizes", d.counted(1), 7 * 27720);
        Check.due("miss", d.counted(2), 0);
        DuelSamples most = new DuelSamples();
        for (int u = 0; u < 12; u++) {
            most.unit(12, 0, 0, 99, 99);
        }
        most.walk(0);
        for (int u = 0; u < 12; u++) {
            most.sets(u, 0, 1);
        }
        Check.due("the most values", most.counted(0), 99L * 12 * 12 * 27720);
        Check.due("the most sizes", most.counted(1), 99L * 12 * 12 * 27720);
        Check.due("the most miss", most.counted(2), 99L * 12 * 11 * 27720);
    }

    private static void countedAsTheyAre() {
        DuelSamples d = new DuelSamples();
        d.unit(12, 0, 0, 7, 3);
        d.unit(0, 0, 0, 50, 60);
        d.walk(0);
        for (int c = 1; c <= 12; c++) {
            d.sets(0, 0, c);
            long sizes = 7L * 12 * 27720 / c;
            Check.due("values by chance " + c, d.counted(0), 3L * 12 * 27720 / c);
            Check.due("sizes by chance " + c, d.counted(1), sizes);
            Check.due("miss by chance " + c, d.counted(2), sizes - 7 * 27720);
        }
        d.sets(0, 3, 99);
        d.sets(0, 4, 98);
        Check.due("another value", d.counted(0), 98 * 27720);
        Check.due("another size", d.counted(1), 99 * 27720);
        d.sets(1, 0, 5);
        Check.due("who is not in counts for all", d.counted(2), 50 * 27720);
        Check.due("but not in the sample", d.counted(1), 99 * 27720);
        d.unit(3, 0, 0, 10, 0);
        Check.due("who came since counts for all", d.counted(2), 60 * 27720);
    }

    private static void countedOfChance0() {
        DuelSamples d = new DuelSamples();
        d.unit(12, 0, 0, 7, 3);
        d.unit(12, 0, 0, 10, 20);
        d.walk(0);
        d.sets(0, 0, 0);
        Check.due("values", d.counted(0), 20 * 27720);
        Check.due("sizes", d.counted(1), 10 * 27720);
        Check.due("miss", d.counted(2), 0);
        d.sets(1, 0, 0);
        Check.due("values of none", d.counted(0), 0);
        Check.due("sizes of none", d.counted(1), 0);
        Check.due("miss of none", d.counted(2), 0);
        Check.due("still in", d.was(0), 3);
    }

    private static void countedBad() {
        DuelSamples d = Calls.inUse();
        for (int what : Calls.outside(2)) {
            Calls.bad(d, "counted(" + what + ")", () -> d.counted(what));
        }
    }

    private static void inside() {
        DuelSamples d = new DuelSamples();
        d.unit(12, 0, 1, 0, 0);
        d.unit(12, 0, 1, 0, 0);
        d.unit(0, 0, 1, 0, 0);
        d.unit(12, 0, 3, 0, 0);
        Check.due("ahead of a walk", d.inside(1), 0);
        d.walk(0);
        int[] want = {0, 2, 0, 1};
        for (int t = 0; t < 4; t++) {
            Check.due("inside(" + t + ")", d.inside(t), want[t]);
        }
        d.sets(0, 2, 0);
        Check.due("set otherwise", d.inside(0), 1);
        Check.due("set otherwise", d.inside(1), 1);
        Check.due("all of twelve", Calls.walked(Calls.ALL_WHOLE).inside(0), 12);
    }

    private static void insideBad() {
        DuelSamples d = Calls.inUse();
        for (int t : Calls.outside(3)) {
            Calls.bad(d, "inside(" + t + ")", () -> d.inside(t));
        }
    }

    private static DuelSamples wholeAt(int... places) {
        DuelSamples d = new DuelSamples();
        for (int place : places) {
            d.unit(12, place, 0, 0, 0);
        }
        d.walk(0);
        return d;
    }

    private static void spread() {
        Check.due("two", wholeAt(90, 10).spread(), 80);
        Check.due("three", wholeAt(90, 10, 45).spread(), 35);
        Check.due("both ends", wholeAt(0, 99).spread(), 99);
        Check.due("side by side, the first and the last", wholeAt(50, 10, 90, 30, 51).spread(), 1);
        Check.due("alike places", wholeAt(90, 10, 90).spread(), 0);
        Check.due("alike places behind", wholeAt(0, 99, 99).spread(), 0);
        Check.due("the last of twelve", wholeAt(0, 9, 18, 27, 36, 45, 54, 63, 72, 81, 90, 98).spread(), 8);
        DuelSamples d = wholeAt(90, 10);
        d.unit(12, 11, 0, 0, 0);
        Check.due("who came since is not in", d.spread(), 80);
        d.sets(1, 1, 70);
        Check.due("set otherwise", d.spread(), 20);
        d.sets(1, 0, 0);
        d.walk(0);
        Check.due("who is out does not count", d.spread(), 79);
    }

    private static void spreadNone() {
        Check.due("no unit", new DuelSamples().spread(), Calls.NONE);
        Check.due("no walk", Calls.withChances(12, 12).spread(), Calls.NONE);
        Check.due("no unit in", Calls.walked(0, 0, 0).spread(), Calls.NONE);
        Check.due("one in", Calls.walked(0, 12, 0).spread(), Calls.NONE);
        Check.due("two in", Calls.walked(12, 12, 0).spread(), 0);
    }

    /** In how many walks all of the units told by bits are in, walk by walk on an object of its own. */
    private static int walkByWalk(DuelSamples d, int units, int seed, int n) {
        int found = 0;
        for (int s = seed; s < seed + n; s++) {
            d.walk(s);
            found += (d.was(0) & units) == units ? 1 : 0;
        }
        return found;
    }

    private static DuelSamples drawnFor(int seed, int method) {
        DuelSamples d = new DuelSamples();
        d.draw(seed, 12);
        d.method(method);
        return d;
    }

    private static void oftenCount() {
        DuelSamples d = Calls.withChances(12, 6, 6);
        Check.due("one", d.often(0, 0, 1), 1);
        Check.due("sixty", d.often(0, 0, 60), 60);
        for (int n : new int[] {1, 2, 59, 60}) {
            Check.due("often(1, 10, " + n + ")", d.often(1, 10, n), walkByWalk(Calls.withChances(12, 6, 6), 2, 10, n));
        }
        DuelSamples e = Calls.inUse();
        for (int n : new int[] {0, 61, -1, Integer.MIN_VALUE, Integer.MAX_VALUE}) {
            Calls.bad(e, "often(0, 0, " + n + ")", () -> e.often(0, 0, n));
            Calls.bad(e, "often(0, 999999, " + n + ")", () -> e.often(0, 999999, n));
        }
    }

    private static void oftenTogether() {
        DuelSamples d = Calls.inUse();
        Check.due("often(0, 999940, 60)", d.often(0, 999940, 60), 60);
        Check.due("often(0, 999999, 1)", d.often(0, 999999, 1), 1);
        Check.due("often(0, 999998, 2)", d.often(0, 999998, 2), 2);
        int[][] wrong = {{999941, 60}, {999999, 2}, {999999, 60}, {1000000, 1}, {1000000, 0}};
        for (int[] w : wrong) {
            Calls.bad(d, "often(0, " + w[0] + ", " + w[1] + ")", () -> d.often(0, w[0], w[1]));
            Calls.bad(d, "both(0, 1, " + w[0] + ", " + w[1] + ")", () -> d.both(0, 1, w[0], w[1]));
            Calls.bad(d, "best(" + w[0] + ", " + w[1] + ", 0)", () -> d.best(w[0], w[1], 0));
        }
        Check.due("both(0, 1, 999999, 1)", Calls.withChances(12, 12).both(0, 1, 999999, 1), 1);
        Check.due("best(999940, 60, 0)", Calls.withChances(12).best(999940, 60, 0), 999940);
    }

    private static void often() {
        for (int method = 0; method < 5; method++) {
            for (int u = 0; u < 12; u++) {
                Check.due("method " + method + ", often(" + u + ", 40, 25)", drawnFor(7, method).often(u, 40, 25),
                        walkByWalk(drawnFor(7, method), 1 << u, 40, 25));
            }
        }
        Check.due("of chance 0", Calls.withChances(0, 12).often(0, 0, 60), 0);
        Check.due("whole", Calls.withChances(0, 12).often(1, 0, 60), 60);
    }

    private static void oftenBad() {
        DuelSamples d = Calls.inUse();
        for (int u : Calls.outside(2)) {
            Calls.bad(d, "often(" + u + ", 0, 1)", () -> d.often(u, 0, 1));
        }
        for (int seed : Calls.outside(999999)) {
            Calls.bad(d, "often(0, " + seed + ", 1)", () -> d.often(0, seed, 1));
            Calls.bad(d, "often(0, " + seed + ", 60)", () -> d.often(0, seed, 60));
        }
        DuelSamples none = new DuelSamples();
        Calls.bad(none, "often(0, 0, 1) without units", () -> none.often(0, 0, 1));
    }

    private static void both() {
        for (int v = 1; v < 12; v++) {
            int want = walkByWalk(drawnFor(42, 3), 1 | 1 << v, 100, 20);
            Check.due("both(0, " + v + ", 100, 20)", drawnFor(42, 3).both(0, v, 100, 20), want);
            Check.due("both(" + v + ", 0, 100, 20)", drawnFor(42, 3).both(v, 0, 100, 20), want);
        }
        Check.due("both whole", Calls.withChances(12, 12).both(0, 1, 0, 60), 60);
        Check.due("one of chance 0", Calls.withChances(12, 0).both(0, 1, 0, 60), 0);
        Check.due("never both", Calls.withChances(6, 6).both(0, 1, 0, 60), 0);
        Check.due("one walk", Calls.withChances(12, 12).both(1, 0, 0, 1), 1);
    }

    private static void bothBad() {
        DuelSamples d = Calls.inUse();
        for (int u = 0; u < 3; u++) {
            int alike = u;
            Calls.bad(d, "both(" + u + ", " + u + ", 0, 1)", () -> d.both(alike, alike, 0, 1));
        }
        for (int u : Calls.outside(2)) {
            Calls.bad(d, "both(" + u + ", 0, 0, 1)", () -> d.both(u, 0, 0, 1));
            Calls.bad(d, "both(0, " + u + ", 0, 1)", () -> d.both(0, u, 0, 1));
        }
        DuelSamples e = Calls.inUse();
        for (int seed : Calls.outside(999999)) {
            Calls.bad(e, "both(0, 1, " + seed + ", 1)", () -> e.both(0, 1, seed, 1));
        }
        for (int n : new int[] {0, 61, -1, Integer.MAX_VALUE}) {
            Calls.bad(e, "both(0, 1, 0, " + n + ")", () -> e.both(0, 1, 0, n));
        }
    }

    /** The seed of the least miss and that miss, walk by walk. */
    private static long[] bestOf(DuelSamples d, int seed, int n) {
        long[] best = {-1, Long.MAX_VALUE};
        for (int s = seed; s < seed + n; s++) {
            d.walk(s);
            long miss = d.counted(2);
            if (miss < best[1]) {
                best = new long[] {s, miss};
            }
        }
        return best;
    }

    private static void bestSeed() {
        for (int method = 0; method < 5; method++) {
            Check.due("best(300, 60, 0) by " + method, drawnFor(9, method).best(300, 60, 0),
                    bestOf(drawnFor(9, method), 300, 60)[0]);
        }
        Check.due("one seed", drawnFor(9, 0).best(999999, 1, 0), 999999);
        Check.due("of like ones", Calls.withChances(12).best(17, 60, 0), 17);
        Check.due("of like ones without a unit", new DuelSamples().best(940, 60, 0), 940);
        // The miss is 20 or 40 here: the first of the like ones behind an unlike one is looked for.
        for (int seed = 0; seed < 20; seed++) {
            Check.due("of like ones from " + seed, unlikePair().best(seed, 30, 0), bestOf(unlikePair(), seed, 30)[0]);
        }
    }

    private static DuelSamples unlikePair() {
        DuelSamples d = new DuelSamples();
        d.unit(4, 0, 0, 20, 0);
        d.unit(8, 0, 0, 80, 0);
        return d;
    }

    private static void bestMiss() {
        for (int method = 0; method < 5; method++) {
            Check.due("best(300, 60, 1) by " + method, drawnFor(9, method).best(300, 60, 1),
                    bestOf(drawnFor(9, method), 300, 60)[1]);
        }
        Check.due("no unit", new DuelSamples().best(0, 1, 1), 0);
        Check.due("nothing to miss", Calls.withChances(12, 0).best(0, 60, 1), 0);
        DuelSamples d = new DuelSamples();
        d.unit(6, 0, 0, 99, 0);
        Check.due("in or out, both miss", d.best(0, 60, 1), 99 * 27720);
    }

    private static void bestBad() {
        DuelSamples d = Calls.inUse();
        for (int what : Calls.outside(1)) {
            Calls.bad(d, "best(0, 1, " + what + ")", () -> d.best(0, 1, what));
        }
        for (int seed : Calls.outside(999999)) {
            Calls.bad(d, "best(" + seed + ", 1, 0)", () -> d.best(seed, 1, 0));
        }
        for (int n : new int[] {0, 61, -1, Integer.MAX_VALUE}) {
            Calls.bad(d, "best(0, " + n + ", 0)", () -> d.best(0, n, 0));
        }
    }
}
