/** Promises 1 to 8: a new object, and its units. */
final class UnitSentences {
    private UnitSentences() {
    }

    static void tell(Sentences doc) {
        doc.in("Promise 1");
        doc.says("As told; no UNITS.", UnitSentences::newObject);
        doc.in("Promise 2");
        doc.says("A UNIT comes: its number.", UnitSentences::unit);
        doc.says("BAD;", UnitSentences::unitBad);
        doc.says("FULL: 12.", UnitSentences::unitFull);
        doc.in("Promise 3");
        doc.says("CHANCE (what 0), PLACE (1), STRATUM (2), SIZE (3), VALUE (4) of a UNIT become v: what it was.",
                UnitSentences::sets);
        doc.says("BAD.", UnitSentences::setsBad);
        doc.in("Promise 4");
        doc.says("All UNITS go,", UnitSentences::emptiesUnits);
        doc.says("the last SAMPLE is empty:", UnitSentences::emptiesSample);
        doc.says("how many there were.", UnitSentences::emptiesCounts);
        doc.in("Promise 5");
        doc.says("n UNITS (0 .. 12) take the place of all:", UnitSentences::drawCount);
        doc.says("X is SEED (0 .. 999999) at first;", UnitSentences::drawSeed);
        doc.says("for each X becomes as by a WALK:", () -> drawn(0, 13, 65536));
        doc.says("CHANCE X by 65536 (cut), by 13 left over,", () -> drawn(0, 13, 65536));
        doc.says("PLACE X by 1024, by 100,", () -> drawn(1, 100, 1024));
        doc.says("STRATUM X by 32768, by 4,", () -> drawn(2, 4, 32768));
        doc.says("SIZE X by 4096, by 100,", () -> drawn(3, 100, 4096));
        doc.says("VALUE X by 512, by 100;", () -> drawn(4, 100, 512));
        doc.says("the last SAMPLE is empty:", UnitSentences::drawSample);
        doc.says("all CHANCES together.", UnitSentences::drawCounts);
        doc.says("BAD.", UnitSentences::drawBad);
        doc.in("Promise 6");
        doc.says("Of a UNIT: CHANCE (0), PLACE (1), STRATUM (2), SIZE (3), VALUE (4),", UnitSentences::of);
        doc.says("whether it is in the last SAMPLE (5).", UnitSentences::ofSample);
        doc.says("BAD.", UnitSentences::ofBad);
        doc.in("Promise 7");
        doc.says("Of all UNITS: CHANCES (0),", UnitSentences::allChances);
        doc.says("SIZES of those of a CHANCE above 0 (1), VALUES of these (2),", UnitSentences::allSizesAndValues);
        doc.says("how many are OPEN at the beginning (3).", UnitSentences::allOpen);
        doc.says("BAD.", UnitSentences::allBad);
        doc.in("Promise 8");
        doc.says("THE METHOD: what it was.", UnitSentences::method);
        doc.says("BAD.", UnitSentences::methodBad);
    }

    private static void newObject() {
        DuelSamples d = new DuelSamples();
        for (int what = 0; what <= 6; what++) {
            Check.due("told(" + what + ")", d.told(what), 0);
        }
        for (int what = 0; what <= 3; what++) {
            Check.due("all(" + what + ")", d.all(what), 0);
            Check.due("inside(" + what + ")", d.inside(what), 0);
        }
        for (int what = 0; what <= 2; what++) {
            Check.due("counted(" + what + ")", d.counted(what), 0);
        }
        Calls.noWalk(d);
        Check.due("spread()", d.spread(), Calls.NONE);
        Check.due("best(0, 1, 0)", d.best(0, 1, 0), 0);
        Check.due("best(0, 1, 1)", d.best(0, 1, 1), 0);
        Check.due("many()", d.many(), 1);
        Check.due("sizes(0)", d.sizes(0), 0);
        Check.due("sizes(1)", d.sizes(1), 0);
        Check.due("least()", d.least(), 0);
        Check.due("answer(NONE)", d.answer(Calls.NONE), 0);
        Check.due("clear()", d.clear(), 0);
        Check.due("method(0)", d.method(0), 0);
        Check.due("empties()", d.empties(), 0);
        Check.due("NONE", DuelSamples.NONE, -1);
        for (int what = 0; what <= 5; what++) {
            int fact = what;
            Calls.bad(d, "of(0, " + what + ")", () -> d.of(0, fact));
        }
    }

    private static void unit() {
        DuelSamples d = new DuelSamples();
        for (int u = 0; u < 12; u++) {
            Check.due("unit " + u, d.unit(12 - u, 99 - u, u % 4, 88 + u, u), u);
            Check.due("units", d.told(4), u + 1);
        }
        for (int u = 0; u < 12; u++) {
            int[] want = {12 - u, 99 - u, u % 4, 88 + u, u, 0};
            for (int what = 0; what < 6; what++) {
                Check.due("of(" + u + ", " + what + ")", d.of(u, what), want[what]);
            }
        }
        Check.due("the least", new DuelSamples().unit(0, 0, 0, 0, 0), 0);
        Check.due("the most", new DuelSamples().unit(12, 99, 3, 99, 99), 0);
        DuelSamples e = Calls.walked(12);
        e.unit(12, 0, 0, 0, 0);
        Check.due("who came behind the walk is not in", e.of(1, 5), 0);
    }

    private static void unitBad() {
        for (int what = 0; what < 5; what++) {
            DuelSamples d = Calls.inUse();
            for (int v : Calls.outside(Calls.MOST[what])) {
                int[] f = {0, 0, 0, 0, 0};
                f[what] = v;
                Calls.bad(d, "unit with " + v + " as " + what, () -> d.unit(f[0], f[1], f[2], f[3], f[4]));
            }
        }
        DuelSamples d = Calls.inUse();
        Calls.bad(d, "unit with nothing as told", () -> d.unit(13, 100, 4, 100, 100));
    }

    private static void unitFull() {
        DuelSamples d = new DuelSamples();
        d.draw(3, 11);
        Check.due("the twelfth", d.unit(6, 5, 1, 5, 5), 11);
        Calls.full(d, "a thirteenth", () -> d.unit(1, 1, 1, 1, 1));
        Calls.full(d, "a thirteenth again", () -> d.unit(0, 0, 0, 0, 0));
        Check.due("units", d.told(4), 12);
        d.draw(3, 12);
        Calls.full(d, "behind twelve drawn ones", () -> d.unit(12, 99, 3, 99, 99));
        d.empties();
        Check.due("when they went", d.unit(1, 1, 1, 1, 1), 0);
    }

    private static void sets() {
        DuelSamples d = new DuelSamples();
        d.unit(1, 2, 3, 4, 5);
        d.unit(6, 7, 0, 9, 10);
        for (int what = 0; what < 5; what++) {
            Check.due("sets(0, " + what + ", most)", d.sets(0, what, Calls.MOST[what]), what + 1);
            Check.due("it is the most", d.of(0, what), Calls.MOST[what]);
            Check.due("sets(0, " + what + ", 0)", d.sets(0, what, 0), Calls.MOST[what]);
            Check.due("it is 0", d.of(0, what), 0);
            Check.due("the same again", d.sets(0, what, 0), 0);
        }
        int[] other = {6, 7, 0, 9, 10};
        for (int what = 0; what < 5; what++) {
            Check.due("the other's " + what, d.of(1, what), other[what]);
        }
        d.draw(1, 12);
        int before = d.of(11, 3);
        Check.due("the last of twelve", d.sets(11, 3, 1), before);
    }

    private static void setsBad() {
        DuelSamples d = Calls.inUse();
        for (int u : Calls.outside(2)) {
            Calls.bad(d, "sets(" + u + ", 0, 0)", () -> d.sets(u, 0, 0));
        }
        for (int what : Calls.outside(4)) {
            Calls.bad(d, "sets(0, " + what + ", 0)", () -> d.sets(0, what, 0));
        }
        for (int what = 0; what < 5; what++) {
            DuelSamples e = Calls.inUse();
            int fact = what;
            for (int v : Calls.outside(Calls.MOST[what])) {
                Calls.bad(e, "sets(0, " + what + ", " + v + ")", () -> e.sets(0, fact, v));
            }
        }
        DuelSamples none = new DuelSamples();
        Calls.bad(none, "sets(0, 0, 0) without units", () -> none.sets(0, 0, 0));
        DuelSamples twelve = new DuelSamples();
        twelve.draw(1, 12);
        Calls.bad(twelve, "sets(12, 0, 0) of twelve", () -> twelve.sets(12, 0, 0));
    }

    private static void emptiesUnits() {
        DuelSamples d = Calls.inUse();
        d.empties();
        Check.due("units", d.told(4), 0);
        Calls.bad(d, "of(0, 0)", () -> d.of(0, 0));
        Check.due("chances", d.all(0), 0);
        Check.due("open", d.all(3), 0);
        Check.due("samples there can be", d.many(), 1);
        Check.due("the next one", d.unit(3, 0, 0, 0, 0), 0);
        Check.due("it is itself", d.of(0, 0), 3);
        Check.due("the method stays", d.told(5), 3);
        Check.due("the text stays", d.told(3), 5);
        Check.due("the answer stays", Calls.reply(d).length(), 1);
    }

    private static void emptiesSample() {
        DuelSamples d = Calls.withChances(12, 12, 6, 5, 11, 4);
        d.walk(0);
        Check.due("plays ahead", d.was(1), 4);
        Check.due("by 12 or less ahead", d.was(2), 1);
        Check.due("by more ahead", d.was(3), 2);
        Check.due("sample ahead", d.was(0) & 3, 3);
        d.empties();
        Calls.noWalk(d);
        Check.due("like a new object", d.digest(), new DuelSamples().digest());
        for (int what = 0; what <= 2; what++) {
            Check.due("counted(" + what + ")", d.counted(what), 0);
        }
        Check.due("inside(0)", d.inside(0), 0);
        Check.due("spread()", d.spread(), Calls.NONE);
        Check.due("many in words", Calls.answered(d, "many;"), "0");
        d.unit(12, 0, 0, 5, 5);
        Check.due("who comes then is not in", d.of(0, 5), 0);
        Check.due("nor counted", d.counted(0), 0);
    }

    private static void emptiesCounts() {
        DuelSamples d = new DuelSamples();
        Check.due("none", d.empties(), 0);
        for (int n = 0; n <= 12; n++) {
            d.draw(1, n);
            Check.due("of " + n, d.empties(), n);
            Check.due("again", d.empties(), 0);
        }
        Check.due("nothing was refused", d.told(0) + d.told(1) + d.told(2), 0);
    }

    private static void drawCount() {
        DuelSamples d = Calls.inUse();
        for (int n = 12; n >= 0; n--) {
            d.draw(5, n);
            Check.due("units of draw(5, " + n + ")", d.told(4), n);
            Calls.bad(d, "the one behind the last", () -> d.of(d.told(4), 0));
        }
        Check.due("the method stays", d.told(5), 3);
        DuelSamples e = Calls.inUse();
        for (int n : Calls.outside(12)) {
            Calls.bad(e, "draw(0, " + n + ")", () -> e.draw(0, n));
        }
    }

    private static void drawSeed() {
        for (int seed : new int[] {0, 1, 999998, 999999}) {
            DuelSamples d = new DuelSamples();
            long x = Calls.xs(seed, 1)[0];
            Check.due("draw(" + seed + ", 1)", d.draw(seed, 1), x / 65536 % 13);
            Check.due("its place", d.of(0, 1), x / 1024 % 100);
        }
        DuelSamples e = Calls.inUse();
        for (int seed : Calls.outside(999999)) {
            Calls.bad(e, "draw(" + seed + ", 1)", () -> e.draw(seed, 1));
            Calls.bad(e, "draw(" + seed + ", 0)", () -> e.draw(seed, 0));
        }
    }

    private static void drawn(int what, int many, int by) {
        for (int seed : new int[] {0, 1, 2, 77, 500000, 999999}) {
            DuelSamples d = new DuelSamples();
            d.draw(seed, 12);
            long[] x = Calls.xs(seed, 12);
            for (int u = 0; u < 12; u++) {
                Check.due("draw(" + seed + ", 12), of(" + u + ", " + what + ")", d.of(u, what), x[u] / by % many);
            }
        }
    }

    private static void drawSample() {
        for (int n : new int[] {0, 1, 12}) {
            DuelSamples d = Calls.walked(12, 6, 5, 11, 4);
            Check.due("plays ahead", d.was(1), 4);
            d.draw(999999, n);
            Calls.noWalk(d);
            for (int u = 0; u < n; u++) {
                Check.due("of(" + u + ", 5)", d.of(u, 5), 0);
            }
            Check.due("counted(0)", d.counted(0), 0);
            Check.due("spread()", d.spread(), Calls.NONE);
        }
    }

    private static void drawCounts() {
        DuelSamples d = new DuelSamples();
        Check.due("of none", d.draw(1, 0), 0);
        Check.due("draw(1, 1)", d.draw(1, 1), 3);
        for (int n = 0; n <= 12; n++) {
            int together = 0;
            for (long x : Calls.xs(42, n)) {
                together += (int) (x / 65536 % 13);
            }
            Check.due("draw(42, " + n + ")", d.draw(42, n), together);
            Check.due("all(0)", d.all(0), together);
        }
    }

    private static void drawBad() {
        DuelSamples d = Calls.inUse();
        int[][] wrong = {{-1, 1}, {1000000, 1}, {0, -1}, {0, 13}, {-1, 13}, {Integer.MAX_VALUE, 1},
            {0, Integer.MIN_VALUE}};
        for (int[] w : wrong) {
            Calls.bad(d, "draw(" + w[0] + ", " + w[1] + ")", () -> d.draw(w[0], w[1]));
        }
        Check.due("the sample stays", d.was(0) & 1, 1);
    }

    private static void of() {
        DuelSamples d = new DuelSamples();
        d.unit(12, 20, 3, 40, 50);
        d.unit(0, 21, 2, 41, 51);
        int[][] want = {{12, 20, 3, 40, 50}, {0, 21, 2, 41, 51}};
        for (int u = 0; u < 2; u++) {
            for (int what = 0; what < 5; what++) {
                Check.due("of(" + u + ", " + what + ")", d.of(u, what), want[u][what]);
            }
        }
    }

    private static void ofSample() {
        DuelSamples d = Calls.withChances(12, 0, 12);
        for (int u = 0; u < 3; u++) {
            Check.due("ahead of a walk, of(" + u + ", 5)", d.of(u, 5), 0);
        }
        d.walk(9);
        Check.due("whole", d.of(0, 5), 1);
        Check.due("of chance 0", d.of(1, 5), 0);
        Check.due("whole", d.of(2, 5), 1);
        d.sets(0, 0, 0);
        d.sets(1, 0, 12);
        Check.due("set otherwise, still in", d.of(0, 5), 1);
        Check.due("set otherwise, still out", d.of(1, 5), 0);
        d.walk(9);
        Check.due("out by the next walk", d.of(0, 5), 0);
        Check.due("in by the next walk", d.of(1, 5), 1);
        DuelSamples e = Calls.walked(Calls.ALL_WHOLE);
        Check.due("the last of twelve", e.of(11, 5), 1);
    }

    private static void ofBad() {
        DuelSamples d = Calls.inUse();
        for (int u : Calls.outside(2)) {
            Calls.bad(d, "of(" + u + ", 5)", () -> d.of(u, 5));
        }
        for (int what : Calls.outside(5)) {
            Calls.bad(d, "of(0, " + what + ")", () -> d.of(0, what));
        }
        DuelSamples e = Calls.withChances(Calls.ALL_WHOLE);
        Calls.bad(e, "of(12, 0) of twelve", () -> e.of(12, 0));
    }

    private static DuelSamples fourUnits() {
        DuelSamples d = new DuelSamples();
        d.unit(12, 1, 0, 10, 20);
        d.unit(0, 1, 0, 99, 98);
        d.unit(1, 1, 0, 5, 7);
        d.unit(11, 1, 0, 3, 1);
        return d;
    }

    private static void allChances() {
        Check.due("of four", fourUnits().all(0), 24);
        Check.due("of none", new DuelSamples().all(0), 0);
        Check.due("the most", Calls.withChances(Calls.ALL_WHOLE).all(0), 144);
    }

    private static void allSizesAndValues() {
        DuelSamples d = fourUnits();
        Check.due("sizes", d.all(1), 18);
        Check.due("values", d.all(2), 28);
        d.sets(1, 0, 1);
        Check.due("sizes with one of chance 1", d.all(1), 117);
        Check.due("values with one of chance 1", d.all(2), 126);
        DuelSamples e = new DuelSamples();
        e.unit(0, 1, 0, 99, 98);
        Check.due("sizes of chance 0", e.all(1), 0);
        Check.due("values of chance 0", e.all(2), 0);
    }

    private static void allOpen() {
        DuelSamples d = fourUnits();
        Check.due("of four", d.all(3), 2);
        d.walk(1);
        Check.due("behind a walk", d.all(3), 2);
        for (int c = 0; c <= 12; c++) {
            Check.due("of one with chance " + c, Calls.withChances(c).all(3), c > 0 && c < 12 ? 1 : 0);
        }
        Check.due("twelve", Calls.withChances(1, 1, 1, 1, 1, 1, 11, 11, 11, 11, 11, 11).all(3), 12);
    }

    private static void allBad() {
        DuelSamples d = Calls.inUse();
        for (int what : Calls.outside(3)) {
            Calls.bad(d, "all(" + what + ")", () -> d.all(what));
        }
    }

    private static void method() {
        DuelSamples d = new DuelSamples();
        Check.due("at first", d.method(0), 0);
        for (int k = 1; k < 5; k++) {
            Check.due("method(" + k + ")", d.method(k), k - 1);
            Check.due("told", d.told(5), k);
            Check.due("the same again", d.method(k), k);
        }
        Check.due("back", d.method(0), 4);
    }

    private static void methodBad() {
        DuelSamples d = Calls.inUse();
        for (int k : Calls.outside(4)) {
            Calls.bad(d, "method(" + k + ")", () -> d.method(k));
        }
        Check.due("it stays", d.method(0), 3);
    }
}
