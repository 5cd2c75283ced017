import java.util.Arrays;

/** Units drawn with told chances by duels of two; see ../shared/DOC.md for every promise. */
public final class DuelSamples {
    public static final int NONE = -1, BAD = -2, NO = -3, FULL = -4;

    private static final int CHANCE = 0, PLACE = 1, STRATUM = 2, SIZE = 3, VALUE = 4, FACTS = 5;
    private static final int MOST_UNITS = 12, TWELFTHS = 12, STRATA = 4, METHODS = 5;
    private static final int MOST_SEED = 999999, MOST_WALKS = 60;
    /** The least number that every chance divides, so that what is counted up stays whole. */
    private static final int PARTS = 27720;
    private static final int NOT_SO_MANY = -5, MINUS_TEN = -10;

    private final Roster roster;
    private final Course last;
    private final Course trial;
    private final Reach reach;
    private final Script script;
    private final Reply reply;
    private int method;
    private int refusedBad;
    private int refusedFull;

    public DuelSamples() {
        roster = new Roster();
        last = new Course();
        // Walks that are only looked at run here, so that the last one stays as it is.
        trial = new Course();
        reach = new Reach();
        script = new Script();
        reply = new Reply();
    }

    // ---- units

    public int unit(int chance, int place, int stratum, int size, int value) {
        boolean fits = Roster.fits(CHANCE, chance) && Roster.fits(PLACE, place) && Roster.fits(STRATUM, stratum)
                && Roster.fits(SIZE, size) && Roster.fits(VALUE, value);
        if (!fits) {
            return refuse(BAD);
        }
        if (roster.count >= MOST_UNITS) {
            return refuse(FULL);
        }
        return roster.append(chance, place, stratum, size, value);
    }

    public int sets(int u, int what, int v) {
        if (!roster.has(u) || !Roster.fits(what, v)) {
            return refuse(BAD);
        }
        return roster.change(u, what, v);
    }

    public int empties() {
        int before = roster.count;
        roster.removeAll();
        last.forget();
        return before;
    }

    public int draw(int seed, int n) {
        if (!isSeed(seed) || n < 0 || n > MOST_UNITS) {
            return refuse(BAD);
        }
        roster.removeAll();
        last.forget();
        long x = seed;
        for (int k = 0; k < n; k++) {
            x = nextX(x);
            roster.append((int) (x / 65536 % 13), (int) (x / 1024 % 100), (int) (x / 32768 % 4),
                    (int) (x / 4096 % 100), (int) (x / 512 % 100));
        }
        return roster.sum(CHANCE);
    }

    public int of(int u, int what) {
        if (!roster.has(u) || what < 0 || what > FACTS) {
            return refuse(BAD);
        }
        return knownOf(u, what);
    }

    public int all(int what) {
        switch (what) {
            case 0: return roster.sum(CHANCE);
            case 1: return roster.sum(SIZE);
            case 2: return roster.sum(VALUE);
            case 3: return roster.openAtFirst();
            default: return refuse(BAD);
        }
    }

    public int method(int k) {
        if (k < 0 || k >= METHODS) {
            return refuse(BAD);
        }
        return changeMethod(k);
    }

    // ---- walks

    public int walk(int seed) {
        if (!isSeed(seed)) {
            return refuse(BAD);
        }
        last.run(roster, method, seed);
        return Integer.bitCount(last.sample);
    }

    public int was(int what) {
        if (what < 0 || what > 3) {
            return refuse(BAD);
        }
        return last.tally(what);
    }

    public int play(int k, int what) {
        if (k < 0 || what < 0 || what > 2) {
            return refuse(BAD);
        }
        return last.recorded(k, what);
    }

    public long counted(int what) {
        switch (what) {
            case 0: return roster.countUp(last.sample, VALUE);
            case 1: return roster.countUp(last.sample, SIZE);
            case 2: return roster.miss(last.sample);
            default: return refuse(BAD);
        }
    }

    public int inside(int stratum) {
        if (!Roster.fits(STRATUM, stratum)) {
            return refuse(BAD);
        }
        int found = 0;
        for (int u = 0; u < roster.count; u++) {
            if (last.holds(u) && roster.fact(u, STRATUM) == stratum) {
                found++;
            }
        }
        return found;
    }

    public int spread() {
        int nearest = NONE;
        for (int u = 0; u < roster.count; u++) {
            for (int v = u + 1; v < roster.count; v++) {
                if (last.holds(u) && last.holds(v)) {
                    int distance = roster.distance(u, v);
                    nearest = nearest == NONE ? distance : Math.min(nearest, distance);
                }
            }
        }
        return nearest;
    }

    // ---- many walks

    public int often(int u, int seed, int n) {
        if (!roster.has(u) || !areSeeds(seed, n)) {
            return refuse(BAD);
        }
        return walksWith(1 << u, seed, n);
    }

    public int both(int u, int v, int seed, int n) {
        if (!roster.has(u) || !roster.has(v) || u == v || !areSeeds(seed, n)) {
            return refuse(BAD);
        }
        return walksWith(1 << u | 1 << v, seed, n);
    }

    public long best(int seed, int n, int what) {
        if (!areSeeds(seed, n) || what < 0 || what > 1) {
            return refuse(BAD);
        }
        int bestSeed = seed;
        long bestMiss = NONE;
        for (int k = 0; k < n; k++) {
            trial.run(roster, method, seed + k);
            long miss = roster.miss(trial.sample);
            if (bestMiss == NONE || miss < bestMiss) {
                bestMiss = miss;
                bestSeed = seed + k;
            }
        }
        return what == 0 ? bestSeed : bestMiss;
    }

    // ---- all there can be

    public int many() {
        reach.explore(roster, method, trial);
        return reach.howMany();
    }

    public int sizes(int what) {
        if (what < 0 || what > 1) {
            return refuse(BAD);
        }
        reach.explore(roster, method, trial);
        return what == 0 ? reach.fewestUnits() : reach.mostUnits();
    }

    public int can(int u, int v) {
        if (!roster.has(u) || !roster.has(v)) {
            return refuse(BAD);
        }
        reach.explore(roster, method, trial);
        return reach.hasWith(1 << u | 1 << v) ? 1 : 0;
    }

    public long least() {
        reach.explore(roster, method, trial);
        return reach.leastMiss(roster);
    }

    // ---- words

    public int type(int c) {
        if (c < 0 || c > 127) {
            return refuse(BAD);
        }
        if (script.length >= Script.MOST_BYTES) {
            return refuse(FULL);
        }
        return script.append(c);
    }

    public int clear() {
        int before = script.length;
        script.length = 0;
        return before;
    }

    public int says() {
        int fault = script.read(roster.count);
        if (fault != NONE) {
            return MINUS_TEN - fault;
        }
        reply.length = 0;
        for (int k = 0; k < script.sentences; k++) {
            if (k > 0) {
                reply.put(' ');
            }
            perform(k);
        }
        return script.sentences;
    }

    public int answer(int k) {
        if (k < NONE) {
            refuse(BAD);
            return MINUS_TEN;
        }
        if (k == NONE) {
            return reply.length;
        }
        return k < reply.length ? reply.sign(k) : NOT_SO_MANY;
    }

    public int told(int what) {
        if (what < 0 || what > 6) {
            return refuse(BAD);
        }
        return state(what);
    }

    public long digest() {
        long h = 2029;
        for (int what = 0; what <= 6; what++) {
            h = 31 * h + state(what);
        }
        for (int u = 0; u < roster.count; u++) {
            for (int what = 0; what <= FACTS; what++) {
                h = 31 * h + knownOf(u, what);
            }
        }
        for (int what = 0; what <= 3; what++) {
            h = 31 * h + last.tally(what);
        }
        for (int k = 0; k < reply.length; k++) {
            h = 31 * h + reply.sign(k);
        }
        return h;
    }

    // ---- what the calls share

    private int refuse(int why) {
        if (why == BAD) {
            refusedBad++;
        } else {
            refusedFull++;
        }
        return why;
    }

    private static boolean isSeed(int seed) {
        return seed >= 0 && seed <= MOST_SEED;
    }

    private static boolean areSeeds(int seed, int n) {
        return isSeed(seed) && n >= 1 && n <= MOST_WALKS && seed + n <= MOST_SEED + 1;
    }

    private static long nextX(long x) {
        return (x * 1103515245L + 12345L) % 2147483648L;
    }

    private int knownOf(int u, int what) {
        if (what == FACTS) {
            return last.holds(u) ? 1 : 0;
        }
        return roster.fact(u, what);
    }

    private int changeMethod(int k) {
        int before = method;
        method = k;
        return before;
    }

    private int state(int what) {
        switch (what) {
            case 0: return refusedBad;
            // No call refuses by NO.
            case 1: return 0;
            case 2: return refusedFull;
            case 3: return script.length;
            case 4: return roster.count;
            case 5: return method;
            default: return reply.length;
        }
    }

    private int walksWith(int units, int seed, int n) {
        int found = 0;
        for (int k = 0; k < n; k++) {
            trial.run(roster, method, seed + k);
            if ((trial.sample & units) == units) {
                found++;
            }
        }
        return found;
    }

    /** Does sentence k, which has been read without a fault, and tells its answer. */
    private void perform(int k) {
        int verb = script.verb(k);
        if (verb < METHODS) {
            reply.putWord(Script.word(changeMethod(verb)));
        } else if (verb == Script.UNIT) {
            reply.putNumber(roster.append(script.number(k, CHANCE), script.number(k, PLACE),
                    script.number(k, STRATUM), script.number(k, SIZE), script.number(k, VALUE)));
        } else if (verb == Script.WALK) {
            last.run(roster, method, script.number(k, 0));
            reply.putUnits(last.sample);
        } else if (verb == Script.MANY) {
            reply.putNumber(Integer.bitCount(last.sample));
        } else {
            reply.putNumber(roster.change(script.number(k, 0), verb - Script.TURN, script.number(k, 1)));
        }
    }

    /** The units and what is known of each. */
    private static final class Roster {
        private static final int[] MOST = {12, 99, 3, 99, 99};

        private final int[][] facts = new int[FACTS][MOST_UNITS];
        private int count;
        /** Goes up with every change, so that what was worked out ahead of one is not used behind it. */
        private int changes;

        static boolean fits(int what, int v) {
            return what >= 0 && what < MOST.length && v >= 0 && v <= MOST[what];
        }

        boolean has(int u) {
            return u >= 0 && u < count;
        }

        int fact(int u, int what) {
            return u >= 0 && u < count && what >= 0 && what < FACTS ? facts[what][u] : 0;
        }

        int change(int u, int what, int v) {
            if (!has(u) || what < 0 || what >= FACTS) {
                return BAD;
            }
            int before = facts[what][u];
            facts[what][u] = v;
            changes++;
            return before;
        }

        int append(int chance, int place, int stratum, int size, int value) {
            if (count >= MOST_UNITS) {
                return FULL;
            }
            facts[CHANCE][count] = chance;
            facts[PLACE][count] = place;
            facts[STRATUM][count] = stratum;
            facts[SIZE][count] = size;
            facts[VALUE][count] = value;
            changes++;
            count++;
            return count - 1;
        }

        void removeAll() {
            count = 0;
            changes++;
        }

        int distance(int u, int v) {
            return Math.abs(fact(u, PLACE) - fact(v, PLACE));
        }

        /** Of units with a chance above 0 alone; for the chances themselves that is all of them. */
        int sum(int what) {
            int together = 0;
            for (int u = 0; u < count; u++) {
                if (fact(u, CHANCE) > 0) {
                    together += fact(u, what);
                }
            }
            return together;
        }

        int openAtFirst() {
            int open = 0;
            for (int u = 0; u < count; u++) {
                if (fact(u, CHANCE) > 0 && fact(u, CHANCE) < TWELFTHS) {
                    open++;
                }
            }
            return open;
        }

        long countUp(int sample, int what) {
            long together = 0;
            for (int u = 0; u < count; u++) {
                int chance = fact(u, CHANCE);
                if ((sample >> u & 1) == 1 && chance > 0) {
                    together += (long) fact(u, what) * (TWELFTHS * PARTS / chance);
                }
            }
            return together;
        }

        long miss(int sample) {
            return Math.abs(countUp(sample, SIZE) - (long) sum(SIZE) * PARTS);
        }
    }

    /** One walk: the chances that are left, who plays next, and what has been played. */
    private static final class Course {
        private final int[] left = new int[MOST_UNITS];
        private final int[] firsts = new int[MOST_UNITS];
        private final int[] seconds = new int[MOST_UNITS];
        private final int[] winners = new int[MOST_UNITS];
        private int sample;
        private int plays;
        private int small;
        private int large;
        /** The two that play next; NONE where there is no such unit. */
        private int u;
        private int v;

        void run(Roster roster, int method, int seed) {
            forget();
            begin(roster);
            long x = seed;
            // Each play closes a unit at least, so there are no more plays than units.
            for (int k = 0; k < MOST_UNITS && pick(roster, method); k++) {
                x = nextX(x);
                int chances = chancesOfBoth();
                boolean first = chances > 0 && x / 65536 % chances < chancesOfFirst();
                write(first);
                settle(first);
            }
            sample = wholeOnes();
        }

        /** An empty sample is of no walk, so there are no plays to tell of either. */
        void forget() {
            sample = 0;
            plays = 0;
            small = 0;
            large = 0;
        }

        void begin(Roster roster) {
            for (int i = 0; i < MOST_UNITS; i++) {
                left[i] = roster.fact(i, CHANCE);
            }
        }

        boolean holds(int unit) {
            return unit >= 0 && unit < MOST_UNITS && (sample >> unit & 1) == 1;
        }

        int tally(int what) {
            switch (what) {
                case 0: return sample;
                case 1: return plays;
                case 2: return small;
                default: return large;
            }
        }

        int recorded(int k, int what) {
            if (k < 0 || k >= plays || k >= MOST_UNITS) {
                return NONE;
            }
            if (what == 0) {
                return firsts[k];
            }
            return what == 1 ? seconds[k] : winners[k];
        }

        int leftOf(int unit) {
            return unit >= 0 && unit < MOST_UNITS ? left[unit] : 0;
        }

        private void leave(int unit, int chances) {
            if (unit >= 0 && unit < MOST_UNITS) {
                left[unit] = chances;
            }
        }

        private boolean isOpen(int unit) {
            return unit >= 0 && unit < MOST_UNITS && left[unit] > 0 && left[unit] < TWELFTHS;
        }

        private int openFrom(int from) {
            for (int i = from; i < MOST_UNITS; i++) {
                if (isOpen(i)) {
                    return i;
                }
            }
            return NONE;
        }

        /** Sets who plays next; false when none is open any more. */
        boolean pick(Roster roster, int method) {
            u = openFrom(0);
            if (u == NONE) {
                v = NONE;
                return false;
            }
            v = openFrom(u + 1);
            if (v == NONE) {
                return true;
            }
            switch (method) {
                case 1: v = byDistance(roster, 1); break;
                case 2: pickOfStratum(roster); break;
                case 3: v = byDistance(roster, -1); break;
                case 4: pickByChance(); break;
                default: break;
            }
            return true;
        }

        /** Nearest to u by sign 1, farthest by sign -1; a later one must be better, so of like ones the least. */
        private int byDistance(Roster roster, int sign) {
            int found = v;
            int least = sign * roster.distance(u, v);
            for (int i = v + 1; i < MOST_UNITS; i++) {
                int distance = isOpen(i) ? sign * roster.distance(u, i) : least;
                if (distance < least) {
                    found = i;
                    least = distance;
                }
            }
            return found;
        }

        /** The two least stay picked if no stratum has two. */
        private void pickOfStratum(Roster roster) {
            for (int t = 0; t < STRATA; t++) {
                int first = openOfStratum(roster, t, 0);
                int second = first == NONE ? NONE : openOfStratum(roster, t, first + 1);
                if (second != NONE) {
                    u = first;
                    v = second;
                    return;
                }
            }
        }

        private int openOfStratum(Roster roster, int stratum, int from) {
            for (int i = from; i < MOST_UNITS; i++) {
                if (isOpen(i) && roster.fact(i, STRATUM) == stratum) {
                    return i;
                }
            }
            return NONE;
        }

        private void pickByChance() {
            u = mostLeftBut(NONE);
            v = mostLeftBut(u);
        }

        private int mostLeftBut(int other) {
            int found = NONE;
            int most = 0;
            for (int i = 0; i < MOST_UNITS; i++) {
                if (i != other && left[i] < TWELFTHS && left[i] > most) {
                    found = i;
                    most = left[i];
                }
            }
            return found;
        }

        private int leftOfBoth() {
            return leftOf(u) + leftOf(v);
        }

        private int chancesOfBoth() {
            if (v == NONE) {
                return TWELFTHS;
            }
            int together = leftOfBoth();
            return together <= TWELFTHS ? together : 2 * TWELFTHS - together;
        }

        private int chancesOfFirst() {
            return leftOfBoth() <= TWELFTHS ? leftOf(u) : TWELFTHS - leftOf(v);
        }

        private void write(boolean first) {
            if (plays >= MOST_UNITS) {
                return;
            }
            firsts[plays] = u;
            seconds[plays] = v;
            // One alone that gets nothing leaves no winner: v is NONE then.
            winners[plays] = first ? u : v;
            plays++;
            if (v != NONE && leftOfBoth() <= TWELFTHS) {
                small++;
            } else if (v != NONE) {
                large++;
            }
        }

        void settle(boolean first) {
            if (v == NONE) {
                leave(u, first ? TWELFTHS : 0);
                return;
            }
            int together = leftOfBoth();
            int more = Math.min(together, TWELFTHS);
            leave(u, first ? more : together - more);
            leave(v, first ? together - more : more);
        }

        /** Takes back what settle did, so that the other end of the same play can be followed. */
        void restore(int first, int second, int leftOfFirst, int leftOfSecond) {
            u = first;
            v = second;
            leave(first, leftOfFirst);
            leave(second, leftOfSecond);
        }

        int wholeOnes() {
            int bits = 0;
            for (int i = 0; i < MOST_UNITS; i++) {
                if (left[i] == TWELFTHS) {
                    bits |= 1 << i;
                }
            }
            return bits;
        }
    }

    /** All samples there can be, a bit for each. */
    private static final class Reach {
        private static final int ALL_SAMPLES = 1 << MOST_UNITS, BITS = 64;

        private final long[] seen = new long[ALL_SAMPLES / BITS];
        private int atChanges = NONE;
        private int atMethod = NONE;

        /** Works out anew only what may have changed: following every play is the dearest work of all. */
        void explore(Roster roster, int method, Course course) {
            if (atChanges == roster.changes && atMethod == method) {
                return;
            }
            atChanges = roster.changes;
            atMethod = method;
            Arrays.fill(seen, 0L);
            course.begin(roster);
            follow(this, course, roster, method, 0);
        }

        /** Both ends of a play have chances always, so both are followed. */
        private static void follow(Reach reach, Course course, Roster roster, int method, int depth) {
            if (depth > MOST_UNITS || !course.pick(roster, method)) {
                reach.mark(course.wholeOnes());
                return;
            }
            int first = course.u;
            int second = course.v;
            int leftOfFirst = course.leftOf(first);
            int leftOfSecond = course.leftOf(second);
            course.settle(true);
            follow(reach, course, roster, method, depth + 1);
            course.restore(first, second, leftOfFirst, leftOfSecond);
            course.settle(false);
            follow(reach, course, roster, method, depth + 1);
            course.restore(first, second, leftOfFirst, leftOfSecond);
        }

        private void mark(int sample) {
            if (sample >= 0 && sample < ALL_SAMPLES) {
                seen[sample / BITS] |= 1L << (sample % BITS);
            }
        }

        private boolean isSeen(int sample) {
            return sample >= 0 && sample < ALL_SAMPLES && (seen[sample / BITS] >> (sample % BITS) & 1L) == 1L;
        }

        int howMany() {
            int found = 0;
            for (int i = 0; i < seen.length; i++) {
                found += Long.bitCount(seen[i]);
            }
            return found;
        }

        int fewestUnits() {
            int fewest = MOST_UNITS;
            for (int s = 0; s < ALL_SAMPLES; s++) {
                if (isSeen(s)) {
                    fewest = Math.min(fewest, Integer.bitCount(s));
                }
            }
            return fewest;
        }

        int mostUnits() {
            int most = 0;
            for (int s = 0; s < ALL_SAMPLES; s++) {
                if (isSeen(s)) {
                    most = Math.max(most, Integer.bitCount(s));
                }
            }
            return most;
        }

        boolean hasWith(int units) {
            for (int s = 0; s < ALL_SAMPLES; s++) {
                if ((s & units) == units && isSeen(s)) {
                    return true;
                }
            }
            return false;
        }

        long leastMiss(Roster roster) {
            long least = NONE;
            for (int s = 0; s < ALL_SAMPLES; s++) {
                if (isSeen(s)) {
                    long miss = roster.miss(s);
                    least = least == NONE ? miss : Math.min(least, miss);
                }
            }
            return least;
        }
    }

    /** The text, and its sentences once they have been read. */
    private static final class Script {
        private static final int MOST_BYTES = 120, SHORTEST_SENTENCE = 4;
        private static final int MOST_SENTENCES = MOST_BYTES / SHORTEST_SENTENCE;
        private static final int MOST_NUMBERS = 5, FIGURES = 2, FIGURES_OF_WALK = 6;
        /** The methods' own numbers come first, then these; turn to value stand as their facts do. */
        private static final int UNIT = 5, TURN = 6, WALK = 11, MANY = 12, VERBS = 13;

        private final byte[] text = new byte[MOST_BYTES];
        private final int[] verbs = new int[MOST_SENTENCES];
        private final int[] numbers = new int[MOST_SENTENCES * MOST_NUMBERS];
        private int length;
        private int sentences;
        private int at;
        /** How many units there are by the sentence that is being read. */
        private int units;

        static String word(int verb) {
            switch (verb) {
                case 0: return "row";
                case 1: return "near";
                case 2: return "strata";
                case 3: return "far";
                case 4: return "chance";
                case UNIT: return "unit";
                case TURN: return "turn";
                case 7: return "place";
                case 8: return "stratum";
                case 9: return "size";
                case 10: return "value";
                case WALK: return "walk";
                case MANY: return "many";
                default: return "";
            }
        }

        private static int numbersBehind(int verb) {
            if (verb < UNIT || verb == MANY) {
                return 0;
            }
            if (verb == UNIT) {
                return MOST_NUMBERS;
            }
            return verb == WALK ? 1 : 2;
        }

        int append(int c) {
            if (length < MOST_BYTES) {
                text[length] = (byte) c;
                length++;
            }
            return length;
        }

        int verb(int k) {
            return k >= 0 && k < sentences && k < MOST_SENTENCES ? verbs[k] : MANY;
        }

        int number(int k, int i) {
            int where = k * MOST_NUMBERS + i;
            return where >= 0 && where < numbers.length ? numbers[where] : 0;
        }

        /** The place of the fault, or NONE; nothing is done here. */
        int read(int unitsAtFirst) {
            sentences = 0;
            units = unitsAtFirst;
            at = 0;
            for (int k = 0; k <= MOST_SENTENCES; k++) {
                skipBlanks();
                if (at >= length) {
                    return sentences == 0 ? length : NONE;
                }
                int fault = readSentence();
                if (fault != NONE) {
                    return fault;
                }
            }
            return at;
        }

        private int readSentence() {
            int start = at;
            int verb = readWord();
            if (verb == NONE || sentences >= MOST_SENTENCES || verb == UNIT && units >= MOST_UNITS) {
                return start;
            }
            for (int i = 0; i < numbersBehind(verb); i++) {
                skipBlanks();
                int place = at;
                int value = readNumber(verb == WALK ? FIGURES_OF_WALK : FIGURES);
                if (value == NONE || !mayStand(verb, i, value)) {
                    return place;
                }
                numbers[sentences * MOST_NUMBERS + i] = value;
            }
            skipBlanks();
            if (byteAt(at) != ';') {
                return at;
            }
            at++;
            units += verb == UNIT ? 1 : 0;
            verbs[sentences] = verb;
            sentences++;
            return NONE;
        }

        private boolean mayStand(int verb, int i, int value) {
            if (verb == WALK) {
                return isSeed(value);
            }
            if (verb == UNIT) {
                return Roster.fits(i, value);
            }
            return i == 0 ? value < units : Roster.fits(verb - TURN, value);
        }

        /** NONE behind the text's end, which is no byte. */
        private int byteAt(int place) {
            return place >= 0 && place < length && place < MOST_BYTES ? text[place] : NONE;
        }

        private void skipBlanks() {
            for (int k = 0; k < MOST_BYTES && byteAt(at) == ' '; k++) {
                at++;
            }
        }

        private int readWord() {
            int start = at;
            for (int k = 0; k < MOST_BYTES && byteAt(at) >= 'a' && byteAt(at) <= 'z'; k++) {
                at++;
            }
            for (int verb = 0; verb < VERBS; verb++) {
                if (stands(word(verb), start, at)) {
                    return verb;
                }
            }
            return NONE;
        }

        private boolean stands(String word, int from, int to) {
            if (word.length() != to - from) {
                return false;
            }
            for (int i = 0; i < word.length(); i++) {
                if (byteAt(from + i) != word.charAt(i)) {
                    return false;
                }
            }
            return true;
        }

        /** NONE if no figure stands there or too many do. */
        private int readNumber(int mostFigures) {
            int value = 0;
            int figures = 0;
            for (int k = 0; k <= mostFigures && byteAt(at) >= '0' && byteAt(at) <= '9'; k++) {
                value = 10 * value + byteAt(at) - '0';
                figures++;
                at++;
            }
            return figures == 0 || figures > mostFigures ? NONE : value;
        }
    }

    /** The answer in words. */
    private static final class Reply {
        private static final int MOST_SIGNS = 300;

        private final byte[] signs = new byte[MOST_SIGNS];
        private int length;

        int sign(int k) {
            return k >= 0 && k < length && k < MOST_SIGNS ? signs[k] : NOT_SO_MANY;
        }

        void put(int sign) {
            if (length < MOST_SIGNS) {
                signs[length] = (byte) sign;
                length++;
            }
        }

        void putWord(String word) {
            for (int i = 0; i < word.length(); i++) {
                put(word.charAt(i));
            }
        }

        /** All numbers that are answered have two figures at most. */
        void putNumber(int n) {
            if (n >= 10) {
                put('0' + n / 10 % 10);
            }
            put('0' + n % 10);
        }

        void putUnits(int sample) {
            if (sample == 0) {
                put('-');
                return;
            }
            boolean joined = false;
            for (int u = 0; u < MOST_UNITS; u++) {
                if ((sample >> u & 1) == 1) {
                    if (joined) {
                        put('+');
                    }
                    putNumber(u);
                    joined = true;
                }
            }
        }
    }
}
