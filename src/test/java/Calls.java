import java.math.BigInteger;
import java.util.function.LongSupplier;

/** Short ways to call the class, and what is due by the document's plain arithmetic. */
final class Calls {
    static final int NONE = -1;
    static final int BAD = -2;
    static final int FULL = -4;
    /** The most a CHANCE, PLACE, STRATUM, SIZE and VALUE may be. */
    static final int[] MOST = {12, 99, 3, 99, 99};
    static final int[] ALL_WHOLE = {12, 12, 12, 12, 12, 12, 12, 12, 12, 12, 12, 12};

    private Calls() {
    }

    static DuelSamples withChances(int... chances) {
        DuelSamples d = new DuelSamples();
        for (int c : chances) {
            d.unit(c, 0, 0, 1, 1);
        }
        return d;
    }

    static DuelSamples walked(int... chances) {
        DuelSamples d = withChances(chances);
        d.walk(1);
        return d;
    }

    /** An object in which everything that can be told of is unlike a new one's. */
    static DuelSamples inUse() {
        DuelSamples d = new DuelSamples();
        d.unit(12, 10, 1, 20, 30);
        d.unit(5, 40, 2, 50, 60);
        d.unit(9, 70, 3, 80, 90);
        d.method(3);
        d.walk(7);
        d.type(-1);
        tells(d, "many;");
        return d;
    }

    static void types(DuelSamples d, String text) {
        d.clear();
        for (int i = 0; i < text.length(); i++) {
            d.type(text.charAt(i));
        }
    }

    static int tells(DuelSamples d, String text) {
        types(d, text);
        return d.says();
    }

    static String reply(DuelSamples d) {
        StringBuilder signs = new StringBuilder();
        int n = d.answer(NONE);
        for (int k = 0; k < n; k++) {
            signs.append((char) d.answer(k));
        }
        return signs.toString();
    }

    /** What a text answers on an object, which must take all of it. */
    static String answered(DuelSamples d, String text) {
        int done = tells(d, text);
        return done < 0 ? "fault " + (-10 - done) : reply(d);
    }

    /** All plays of the last walk: u, v and which one got it. */
    static String plays(DuelSamples d) {
        StringBuilder all = new StringBuilder();
        int n = d.was(1);
        for (int k = 0; k < n; k++) {
            all.append(k == 0 ? "" : " ").append(d.play(k, 0)).append(':').append(d.play(k, 1))
                    .append('=').append(d.play(k, 2));
        }
        return all.toString();
    }

    /** X ahead of each of n plays by a seed. */
    static long[] xs(long seed, int n) {
        long[] row = new long[n];
        BigInteger x = BigInteger.valueOf(seed);
        for (int i = 0; i < n; i++) {
            x = x.multiply(BigInteger.valueOf(1103515245)).add(BigInteger.valueOf(12345))
                    .mod(BigInteger.valueOf(2147483648L));
            row[i] = x.longValueExact();
        }
        return row;
    }

    /** As at first: no walk is left of which anything could be told. */
    static void noWalk(DuelSamples d) {
        for (int what = 0; what <= 3; what++) {
            Check.due("was(" + what + ")", d.was(what), 0);
        }
        for (int k = 0; k < 12; k++) {
            for (int what = 0; what <= 2; what++) {
                Check.due("play(" + k + ", " + what + ")", d.play(k, what), NONE);
            }
        }
    }

    /** The call answers BAD, and nothing has changed but that one more is told by told(0). */
    static void bad(DuelSamples d, String call, LongSupplier made) {
        refused(d, call, made, 0, BAD);
    }

    static void full(DuelSamples d, String call, LongSupplier made) {
        refused(d, call, made, 2, FULL);
    }

    static void refused(DuelSamples d, String call, LongSupplier made, int kind, long answer) {
        int times = d.told(kind);
        long before = d.digest();
        String plays = plays(d);
        Check.due(call, made.getAsLong(), answer);
        Check.due(call + ", then told(" + kind + ")", d.told(kind), times + 1);
        // The digest goes on behind told(kind) with the rest of told, the units, was and the answer's signs.
        int behind = 6 - kind + 6 * d.told(4) + 4 + d.answer(NONE);
        Check.due(call + ", then digest()", d.digest(), before + power(behind));
        Check.due(call + ", then the plays", plays(d), plays);
    }

    static long power(int times) {
        long h = 1;
        for (int k = 0; k < times; k++) {
            h *= 31;
        }
        return h;
    }

    /** The nearest numbers and the utmost ones that are not 0 .. most. */
    static int[] outside(int most) {
        return new int[] {-1, most + 1, Integer.MIN_VALUE, Integer.MAX_VALUE};
    }

    /** The text's fault is at the place, and by it nothing is done and nothing counts. */
    static void fault(DuelSamples d, String text, int place) {
        types(d, text);
        long before = d.digest();
        String plays = plays(d);
        Check.due("says() of '" + text + "'", d.says(), -10 - place);
        Check.due("digest() behind '" + text + "'", d.digest(), before);
        Check.due("plays behind '" + text + "'", plays(d), plays);
    }
}
