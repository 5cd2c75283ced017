import java.util.Random;

/** Random runs of at most 512 calls, each answer compared with the model's. The seeds are fixed: every run is the same. */
public final class ModelTests {
    private static final String[] WORDS = {"unit", "turn", "place", "stratum", "size", "value", "row", "near", "strata",
        "far", "chance", "walk", "many"};
    private static final int[] NUMBERS = {5, 2, 2, 2, 2, 2, 0, 0, 0, 0, 0, 1, 0};
    private static final int[] WILD = {Integer.MIN_VALUE, Integer.MAX_VALUE, -1, -2, -3, 0, 1, 4, 5, 6, 7, 12, 13, 60, 61,
        99, 100, 120, 127, 128, 300, 999940, 999941, 999999, 1000000};

    private final Random random;
    private final DuelSamples real = new DuelSamples();
    private final Model model = new Model();
    private final int run;
    private int calls = 0;

    private ModelTests(int run) {
        this.run = run;
        this.random = new Random(run * 7919L + 1);
    }

    public static void main(String[] args) {
        int runs = args.length > 0 ? Integer.parseInt(args[0]) : 400;
        for (int run = 0; run < runs && Check.wrong() < 20; run++) {
            new ModelTests(run).go();
        }
        Check.end("ModelTests");
    }

    private void go() {
        boolean wordy = random.nextInt(3) == 0;
        while (calls < 500 && Check.wrong() < 20) {
            if (wordy && random.nextInt(4) == 0 && calls < 380) {
                sayText();
            } else {
                call(random.nextInt(27), random.nextInt(12) == 0);
            }
        }
        same("digest()", real.digest(), model.digest());
    }

    private void same(String call, long got, long want) {
        calls++;
        Check.due("run " + run + ", call " + calls + ": " + call, got, want);
    }

    private int wild() {
        return WILD[random.nextInt(WILD.length)];
    }

    /** A number 0 .. most, seldom the next ones beyond it, in a wild call any. */
    private int n(int most, boolean wild) {
        if (wild && random.nextBoolean()) {
            return random.nextBoolean() ? wild() : most + 1;
        }
        return random.nextInt(most + 1);
    }

    private int someUnit(boolean wild) {
        int count = model.told(4);
        return n(Math.max(0, count - 1), wild);
    }

    private void call(int which, boolean wild) {
        int u = someUnit(wild);
        int v = someUnit(wild);
        int what = n(5, wild);
        int small = n(3, wild);
        int seed = random.nextInt(4) == 0 ? n(999999, wild) : n(1000, wild);
        int times = random.nextInt(5) == 0 ? n(61, wild) : n(8, wild);
        switch (which) {
            case 0: unit(wild); break;
            case 1: sets(u, wild); break;
            case 2:
                if (random.nextInt(12) == 0) {
                    same("empties()", real.empties(), model.empties());
                }
                break;
            case 3: draw(seed, wild); break;
            case 4: same("of(" + u + ", " + what + ")", real.of(u, what), model.of(u, what)); break;
            case 5: same("all(" + small + ")", real.all(small), model.all(small)); break;
            case 6: int k = n(4, wild); same("method(" + k + ")", real.method(k), model.method(k)); break;
            case 7: same("walk(" + seed + ")", real.walk(seed), model.walk(seed)); break;
            case 8: same("was(" + small + ")", real.was(small), model.was(small)); break;
            case 9: int p = n(12, wild); same("play(" + p + ", " + small + ")", real.play(p, small), model.play(p, small));
                break;
            case 10: same("counted(" + small + ")", real.counted(small), model.counted(small)); break;
            case 11: same("inside(" + small + ")", real.inside(small), model.inside(small)); break;
            case 12: same("spread()", real.spread(), model.spread()); break;
            case 13: same("often(" + u + ", " + seed + ", " + times + ")", real.often(u, seed, times),
                    model.often(u, seed, times)); break;
            case 14: same("both(" + u + ", " + v + ", " + seed + ", " + times + ")", real.both(u, v, seed, times),
                    model.both(u, v, seed, times)); break;
            case 15: int b = n(1, wild); same("best(" + seed + ", " + times + ", " + b + ")", real.best(seed, times, b),
                    model.best(seed, times, b)); break;
            default: callMore(which, u, v, wild); break;
        }
    }

    private void callMore(int which, int u, int v, boolean wild) {
        boolean seldom = random.nextInt(6) == 0;
        switch (which) {
            case 16: if (seldom) { same("many()", real.many(), model.many()); } break;
            case 17: int s = n(1, wild); if (seldom) { same("sizes(" + s + ")", real.sizes(s), model.sizes(s)); } break;
            case 18: if (seldom) { same("can(" + u + ", " + v + ")", real.can(u, v), model.can(u, v)); } break;
            case 19: if (seldom) { same("least()", real.least(), model.least()); } break;
            case 20: int c = n(127, wild); same("type(" + c + ")", real.type(c), model.type(c)); break;
            case 21: same("clear()", real.clear(), model.clear()); break;
            case 22: same("says()", real.says(), model.says()); break;
            case 23: int a = wild ? wild() : random.nextInt(40) - 1; same("answer(" + a + ")", real.answer(a),
                    model.answer(a)); break;
            case 24: int t = n(6, wild); same("told(" + t + ")", real.told(t), model.told(t)); break;
            default: same("digest()", real.digest(), model.digest()); break;
        }
    }

    private void unit(boolean wild) {
        int chance = n(12, wild);
        int place = n(random.nextBoolean() ? 99 : 5, wild);
        int stratum = n(3, wild);
        int size = n(99, wild);
        int value = n(99, wild);
        same("unit(" + chance + ", " + place + ", " + stratum + ", " + size + ", " + value + ")",
                real.unit(chance, place, stratum, size, value), model.unit(chance, place, stratum, size, value));
    }

    private void sets(int u, boolean wild) {
        int what = n(4, wild);
        int most = what == 0 ? 12 : what == 2 ? 3 : 99;
        int to = n(most, wild);
        same("sets(" + u + ", " + what + ", " + to + ")", real.sets(u, what, to), model.sets(u, what, to));
    }

    private void draw(int seed, boolean wild) {
        if (random.nextInt(5) != 0) {
            return;
        }
        int count = n(12, wild);
        same("draw(" + seed + ", " + count + ")", real.draw(seed, count), model.draw(seed, count));
    }

    private void sayText() {
        String text = text();
        same("clear()", real.clear(), model.clear());
        for (int i = 0; i < text.length(); i++) {
            same("type(" + (int) text.charAt(i) + ")", real.type(text.charAt(i)), model.type(text.charAt(i)));
        }
        same("says() of '" + text + "'", real.says(), model.says());
        same("answer(-1)", real.answer(-1), model.answer(-1));
        int k = random.nextInt(60);
        same("answer(" + k + ")", real.answer(k), model.answer(k));
    }

    private String text() {
        StringBuilder text = new StringBuilder();
        int sentences = random.nextInt(7);
        boolean walks = random.nextInt(8) == 0;
        for (int k = 0; k < (walks ? 20 : sentences); k++) {
            text.append(walks ? "walk" + random.nextInt(10) + ";" : sentence());
        }
        int changes = random.nextInt(3) == 0 ? 1 + random.nextInt(2) : 0;
        for (int k = 0; k < changes && text.length() > 0; k++) {
            int at = random.nextInt(text.length());
            String signs = " ;0159arwXZ+-\t\u0000\u007f";
            char c = signs.charAt(random.nextInt(signs.length()));
            switch (random.nextInt(3)) {
                case 0: text.setCharAt(at, c); break;
                case 1: text.insert(at, c); break;
                default: text.deleteCharAt(at); break;
            }
        }
        return text.length() > 122 ? text.substring(0, 122) : text.toString();
    }

    private String sentence() {
        int which = random.nextInt(WORDS.length);
        boolean off = random.nextInt(25) == 0;
        StringBuilder s = new StringBuilder(blanks(0)).append(WORDS[which]);
        int[] most = {12, 99, 3, 99, 99};
        for (int i = 0; i < NUMBERS[which]; i++) {
            int top = which == 0 ? most[i] : which == 11 ? 999999 : i == 0 ? Math.max(0, model.told(4) - 1) : most[which - 1];
            s.append(blanks(i)).append(random.nextInt(top + (off ? 2 : 1)));
        }
        return s.append(blanks(0)).append(';').toString();
    }

    private String blanks(int atLeast) {
        int extra = random.nextInt(8) == 0 ? random.nextInt(3) : 0;
        return " ".repeat(Math.min(1, atLeast) + extra);
    }
}
