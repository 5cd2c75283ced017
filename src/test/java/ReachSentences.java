/** Promises 18 to 21: all there can be. */
final class ReachSentences {
    private ReachSentences() {
    }

    static void tell(Sentences doc) {
        doc.in("Promise 18");
        doc.says("How many unlike SAMPLES there can be by THE METHOD.", ReachSentences::many);
        doc.says("by THE METHOD.", ReachSentences::manyByTheMethod);
        doc.in("Promise 19");
        doc.says("The fewest UNITS of a SAMPLE there can be (what 0),", ReachSentences::fewest);
        doc.says("the most (1).", ReachSentences::most);
        doc.says("BAD.", ReachSentences::sizesBad);
        doc.in("Promise 20");
        doc.says("Whether there can be a SAMPLE in which u and v are", ReachSentences::can);
        doc.says("(alike: u): 1, 0.", ReachSentences::canAlike);
        doc.says("BAD.", ReachSentences::canBad);
        doc.in("Promise 21");
        doc.says("The least MISS of all SAMPLES there can be.", ReachSentences::least);
    }

    private static void many() {
        Check.due("no unit", new DuelSamples().many(), 1);
        Check.due("none open", Calls.withChances(12, 0, 12).many(), 1);
        Check.due("one open", Calls.withChances(5).many(), 2);
        Check.due("one of least chance", Calls.withChances(1).many(), 2);
        Check.due("one of most chance", Calls.withChances(11).many(), 2);
        Check.due("two by 12", Calls.withChances(5, 7).many(), 2);
        Check.due("two by less", Calls.withChances(5, 6).many(), 3);
        Check.due("two by more", Calls.withChances(6, 7).many(), 3);
        Check.due("three of 4", Calls.withChances(4, 4, 4).many(), 3);
        Check.due("three of 8", Calls.withChances(8, 8, 8).many(), 3);
        Check.due("pairs of twelve", Calls.withChances(6, 6, 6, 6, 6, 6, 6, 6, 6, 6, 6, 6).many(), 64);
        Check.due("one of twelve", Calls.withChances(1, 1, 1, 1, 1, 1, 1, 1, 1, 1, 1, 1).many(), 12);
        Check.due("one of twelve or none", Calls.withChances(1, 1, 1, 1, 1, 1, 1, 1, 1, 1, 1).many(), 12);
        Check.due("all but one", Calls.withChances(11, 11, 11, 11, 11, 11, 11, 11, 11, 11, 11, 11).many(), 12);
        DuelSamples d = Calls.inUse();
        long before = d.digest();
        String plays = Calls.plays(d);
        d.many();
        Check.due("it changes nothing", d.digest(), before);
        Check.due("nor the plays", Calls.plays(d), plays);
        Check.due("twice the same", d.many(), d.many());
    }

    /** What has been worked out ahead of a change must not be told behind it. */
    private static void manyByTheMethod() {
        DuelSamples d = Calls.withChances(6, 3, 6, 9);
        Check.due("row", d.many(), 5);
        d.method(2);
        Check.due("strata, all in one", d.many(), 5);
        d.sets(1, 2, 1);
        d.sets(3, 2, 1);
        Check.due("strata, two and two", d.many(), 4);
        d.sets(1, 0, 0);
        d.sets(3, 0, 12);
        Check.due("other chances", d.many(), 2);
        d.unit(1, 0, 0, 0, 0);
        Check.due("one more", d.many(), 4);
        Calls.tells(d, "turn 4 0;");
        Check.due("another chance in words", d.many(), 2);
        Calls.tells(d, "unit 1 0 3 0 0;");
        Check.due("one more in words", d.many(), 4);
        d.empties();
        Check.due("none", d.many(), 1);
        d.draw(7, 12);
        d.method(0);
        Check.due("drawn ones by row", d.many(), 56);
        int[] want = {56, 88, 75, 111, 42};
        for (int k = 4; k >= 0; k--) {
            d.method(k);
            Check.due("drawn ones by " + k, d.many(), want[k]);
        }
        Calls.tells(d, "far;");
        Check.due("drawn ones by far in words", d.many(), 111);
    }

    private static void sizes(int what, int want, int... chances) {
        Check.due("sizes(" + what + ") of " + chances.length, Calls.withChances(chances).sizes(what), want);
    }

    private static void fewest() {
        sizes(0, 0);
        sizes(0, 0, 0, 0);
        sizes(0, 0, 1);
        sizes(0, 0, 11);
        sizes(0, 1, 12);
        sizes(0, 1, 5, 7);
        sizes(0, 0, 5, 6);
        sizes(0, 1, 6, 7);
        sizes(0, 1, 5, 5, 12, 0);
        sizes(0, 12, Calls.ALL_WHOLE);
        sizes(0, 11, 11, 12, 12, 12, 12, 12, 12, 12, 12, 12, 12, 12);
        sizes(0, 11, 11, 11, 11, 11, 11, 11, 11, 11, 11, 11, 11, 11);
    }

    private static void most() {
        sizes(1, 0);
        sizes(1, 0, 0, 0);
        sizes(1, 1, 1);
        sizes(1, 1, 11);
        sizes(1, 1, 12);
        sizes(1, 1, 5, 7);
        sizes(1, 1, 5, 6);
        sizes(1, 2, 6, 7);
        sizes(1, 2, 5, 5, 12, 0);
        sizes(1, 12, Calls.ALL_WHOLE);
        sizes(1, 12, 11, 12, 12, 12, 12, 12, 12, 12, 12, 12, 12, 12);
        sizes(1, 1, 1, 1, 1, 1, 1, 1, 1, 1, 1, 1, 1, 1);
    }

    private static void sizesBad() {
        DuelSamples d = Calls.inUse();
        for (int what : Calls.outside(1)) {
            Calls.bad(d, "sizes(" + what + ")", () -> d.sizes(what));
        }
    }

    private static void can() {
        DuelSamples d = Calls.withChances(6, 6, 6, 6, 0, 12);
        int[][] want = {{1, 0, 1, 1, 0, 1}, {0, 1, 1, 1, 0, 1}, {1, 1, 1, 0, 0, 1}, {1, 1, 0, 1, 0, 1},
            {0, 0, 0, 0, 0, 0}, {1, 1, 1, 1, 0, 1}};
        for (int u = 0; u < 6; u++) {
            for (int v = 0; v < 6; v++) {
                Check.due("can(" + u + ", " + v + ")", d.can(u, v), want[u][v]);
            }
        }
        d.sets(0, 2, 1);
        d.sets(2, 2, 1);
        d.method(2);
        Check.due("two of a stratum", d.can(0, 2), 0);
        Check.due("two of two strata", d.can(0, 1), 1);
        Check.due("the last two of twelve", Calls.withChances(Calls.ALL_WHOLE).can(11, 10), 1);
        Check.due("two by 12", Calls.withChances(5, 7).can(0, 1), 0);
        Check.due("two by 13", Calls.withChances(6, 7).can(0, 1), 1);
    }

    private static void canAlike() {
        for (int c = 0; c <= 12; c++) {
            Check.due("can(0, 0) of chance " + c, Calls.withChances(c).can(0, 0), c > 0 ? 1 : 0);
        }
        Check.due("the last of twelve", Calls.withChances(Calls.ALL_WHOLE).can(11, 11), 1);
    }

    private static void canBad() {
        DuelSamples d = Calls.inUse();
        for (int u : Calls.outside(2)) {
            Calls.bad(d, "can(" + u + ", 0)", () -> d.can(u, 0));
            Calls.bad(d, "can(0, " + u + ")", () -> d.can(0, u));
            Calls.bad(d, "can(" + u + ", " + u + ")", () -> d.can(u, u));
        }
        DuelSamples none = new DuelSamples();
        Calls.bad(none, "can(0, 0) without units", () -> none.can(0, 0));
    }

    private static void least() {
        DuelSamples d = new DuelSamples();
        Check.due("no unit", d.least(), 0);
        d.unit(6, 0, 0, 10, 0);
        Check.due("in or out", d.least(), 10 * 27720);
        d.unit(6, 0, 0, 30, 0);
        Check.due("20 or 60 for 40", d.least(), 20 * 27720);
        d.sets(0, 3, 20);
        Check.due("another size", d.least(), 10 * 27720);
        d.unit(0, 0, 0, 99, 0);
        Check.due("one of chance 0", d.least(), 10 * 27720);
        d.sets(2, 0, 1);
        Check.due("40 or 60 for 149", d.least(), 89 * 27720);
        d.walk(3);
        Check.due("behind a walk", d.least(), 89 * 27720);
        Check.due("nothing to miss", Calls.withChances(12, 0).least(), 0);
        DuelSamples e = new DuelSamples();
        e.draw(7, 12);
        long[] want = {194040, 207720, 207720, 83160, 207720};
        for (int k = 0; k < 5; k++) {
            e.method(k);
            Check.due("drawn ones by " + k, e.least(), want[k]);
        }
    }
}
