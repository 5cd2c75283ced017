import java.util.ArrayList;
import java.util.Comparator;
import java.util.HashSet;
import java.util.List;
import java.util.Map;
import java.util.Set;
import java.util.TreeSet;
import java.util.function.IntPredicate;
import java.util.regex.Matcher;
import java.util.regex.Pattern;
import java.util.stream.Collectors;
import java.util.stream.IntStream;

/** The document written a second time, with the Java library and without care for speed, to compare answers with. */
final class Model {
    private static final int[] MOST = {12, 99, 3, 99, 99};
    private static final List<String> METHODS = List.of("row", "near", "strata", "far", "chance");
    private static final List<String> SETS = List.of("turn", "place", "stratum", "size", "value");

    private record Duel(int u, int v, int got, boolean small) {
    }

    private record Walk(TreeSet<Integer> sample, List<Duel> duels) {
    }

    private List<int[]> units = new ArrayList<>();
    private int method = 0;
    private Walk last = new Walk(new TreeSet<>(), List.of());
    private String text = "";
    private String answer = "";
    private int bad = 0;
    private int full = 0;

    private int refusedBad() {
        bad++;
        return -2;
    }

    private static boolean in(int v, int least, int most) {
        return v >= least && v <= most;
    }

    private boolean isUnit(int u) {
        return in(u, 0, units.size() - 1);
    }

    // ---- units

    int unit(int... facts) {
        if (IntStream.range(0, 5).anyMatch(i -> !in(facts[i], 0, MOST[i]))) {
            return refusedBad();
        }
        if (units.size() == 12) {
            full++;
            return -4;
        }
        units.add(facts.clone());
        return units.size() - 1;
    }

    int sets(int u, int what, int v) {
        if (!isUnit(u) || !in(what, 0, 4) || !in(v, 0, MOST[what])) {
            return refusedBad();
        }
        int before = units.get(u)[what];
        units.get(u)[what] = v;
        return before;
    }

    int empties() {
        int n = units.size();
        units = new ArrayList<>();
        last = new Walk(new TreeSet<>(), List.of());
        return n;
    }

    private static long next(long x) {
        return Math.floorMod(x * 1103515245L + 12345L, 1L << 31);
    }

    int draw(int seed, int n) {
        if (!in(seed, 0, 999999) || !in(n, 0, 12)) {
            return refusedBad();
        }
        empties();
        long x = seed;
        while (units.size() < n) {
            x = next(x);
            units.add(new int[] {(int) ((x >> 16) % 13), (int) ((x >> 10) % 100), (int) ((x >> 15) % 4),
                (int) ((x >> 12) % 100), (int) ((x >> 9) % 100)});
        }
        return units.stream().mapToInt(f -> f[0]).sum();
    }

    int of(int u, int what) {
        if (!isUnit(u) || !in(what, 0, 5)) {
            return refusedBad();
        }
        return what == 5 ? (last.sample.contains(u) ? 1 : 0) : units.get(u)[what];
    }

    int all(int what) {
        return switch (what) {
            case 0 -> units.stream().mapToInt(f -> f[0]).sum();
            case 1 -> units.stream().filter(f -> f[0] != 0).mapToInt(f -> f[3]).sum();
            case 2 -> units.stream().filter(f -> f[0] != 0).mapToInt(f -> f[4]).sum();
            case 3 -> (int) units.stream().filter(f -> in(f[0], 1, 11)).count();
            default -> refusedBad();
        };
    }

    int method(int k) {
        if (!in(k, 0, 4)) {
            return refusedBad();
        }
        int before = method;
        method = k;
        return before;
    }

    // ---- walks

    /** The units that play next, u first; one alone or none at last. */
    private List<Integer> next(int[] left) {
        List<Integer> open = IntStream.range(0, left.length).filter(i -> in(left[i], 1, 11)).boxed()
                .collect(Collectors.toList());
        if (open.size() < 2) {
            return open;
        }
        int least = open.get(0);
        List<Integer> others = open.subList(1, open.size());
        Comparator<Integer> byDistance = Comparator.comparing(i -> Math.abs(units.get(i)[1] - units.get(least)[1]));
        Comparator<Integer> byNumber = Comparator.naturalOrder();
        switch (method) {
            case 1:
                return List.of(least, others.stream().min(byDistance.thenComparing(byNumber)).get());
            case 3:
                return List.of(least, others.stream().min(byDistance.reversed().thenComparing(byNumber)).get());
            case 2:
                Map<Integer, List<Integer>> strata = open.stream().collect(Collectors.groupingBy(i -> units.get(i)[2]));
                return strata.keySet().stream().sorted().map(strata::get).filter(l -> l.size() > 1).findFirst()
                        .orElse(open).subList(0, 2);
            case 4:
                Comparator<Integer> byLeft = Comparator.comparing(i -> -left[i]);
                return open.stream().sorted(byLeft.thenComparing(byNumber)).limit(2).collect(Collectors.toList());
            default:
                return open.subList(0, 2);
        }
    }

    /** What decides a play: told how many chances u has and of how many, whether u gets it. */
    private interface Dice {
        boolean first(int ofFirst, int ofBoth);
    }

    private Walk walkBy(Dice dice) {
        int[] left = units.stream().mapToInt(f -> f[0]).toArray();
        List<Duel> duels = new ArrayList<>();
        for (List<Integer> two = next(left); !two.isEmpty(); two = next(left)) {
            int u = two.get(0);
            if (two.size() == 1) {
                boolean in = dice.first(left[u], 12);
                left[u] = in ? 12 : 0;
                duels.add(new Duel(u, -1, in ? u : -1, false));
                continue;
            }
            int v = two.get(1);
            int a = left[u];
            int b = left[v];
            boolean small = a + b <= 12;
            boolean first = small ? dice.first(a, a + b) : dice.first(12 - b, 24 - a - b);
            left[first ? u : v] = small ? a + b : 12;
            left[first ? v : u] = small ? 0 : a + b - 12;
            duels.add(new Duel(u, v, first ? u : v, small));
        }
        return new Walk(IntStream.range(0, left.length).filter(i -> left[i] == 12).boxed()
                .collect(Collectors.toCollection(TreeSet::new)), duels);
    }

    private Walk walkBySeed(int seed) {
        long[] x = {seed};
        return walkBy((ofFirst, ofBoth) -> {
            x[0] = next(x[0]);
            return (x[0] >> 16) % ofBoth < ofFirst;
        });
    }

    int walk(int seed) {
        if (!in(seed, 0, 999999)) {
            return refusedBad();
        }
        last = walkBySeed(seed);
        return last.sample.size();
    }

    private static int bits(Set<Integer> sample) {
        return sample.stream().mapToInt(u -> 1 << u).sum();
    }

    int was(int what) {
        return switch (what) {
            case 0 -> bits(last.sample);
            case 1 -> last.duels.size();
            case 2 -> (int) last.duels.stream().filter(d -> d.v != -1 && d.small).count();
            case 3 -> (int) last.duels.stream().filter(d -> d.v != -1 && !d.small).count();
            default -> refusedBad();
        };
    }

    int play(int k, int what) {
        if (k < 0 || !in(what, 0, 2)) {
            return refusedBad();
        }
        if (k >= last.duels.size()) {
            return -1;
        }
        Duel d = last.duels.get(k);
        return new int[] {d.u, d.v, d.got}[what];
    }

    private long countUp(Set<Integer> sample, int what) {
        return sample.stream().map(units::get).filter(f -> f[0] > 0).mapToLong(f -> 27720L * f[what] * 12 / f[0]).sum();
    }

    private long miss(Set<Integer> sample) {
        return Math.abs(countUp(sample, 3)
                - 27720L * units.stream().filter(f -> f[0] > 0).mapToInt(f -> f[3]).sum());
    }

    long counted(int what) {
        return switch (what) {
            case 0 -> countUp(last.sample, 4);
            case 1 -> countUp(last.sample, 3);
            case 2 -> miss(last.sample);
            default -> refusedBad();
        };
    }

    int inside(int stratum) {
        if (!in(stratum, 0, 3)) {
            return refusedBad();
        }
        return (int) last.sample.stream().filter(u -> units.get(u)[2] == stratum).count();
    }

    int spread() {
        int[] places = last.sample.stream().mapToInt(u -> units.get(u)[1]).sorted().toArray();
        return IntStream.range(1, places.length).map(i -> places[i] - places[i - 1]).min().orElse(-1);
    }

    // ---- many walks

    private boolean areSeeds(int seed, int n) {
        return in(seed, 0, 999999) && in(n, 1, 60) && seed + n <= 1000000;
    }

    private int walksWith(int seed, int n, Set<Integer> who) {
        return (int) IntStream.range(seed, seed + n).filter(s -> walkBySeed(s).sample.containsAll(who)).count();
    }

    int often(int u, int seed, int n) {
        return isUnit(u) && areSeeds(seed, n) ? walksWith(seed, n, Set.of(u)) : refusedBad();
    }

    int both(int u, int v, int seed, int n) {
        boolean fits = isUnit(u) && isUnit(v) && u != v && areSeeds(seed, n);
        return fits ? walksWith(seed, n, Set.of(u, v)) : refusedBad();
    }

    long best(int seed, int n, int what) {
        if (!areSeeds(seed, n) || !in(what, 0, 1)) {
            return refusedBad();
        }
        long[] misses = IntStream.range(seed, seed + n).mapToLong(s -> miss(walkBySeed(s).sample)).toArray();
        int at = IntStream.range(0, n).boxed().min(Comparator.comparing(i -> misses[i])).get();
        return what == 0 ? seed + at : misses[at];
    }

    // ---- all there can be

    /** Every way the plays can end: the ends are told by a list that counts up like a number of two figures. */
    private Set<Set<Integer>> allSamples() {
        Set<Set<Integer>> found = new HashSet<>();
        List<Boolean> ends = new ArrayList<>();
        do {
            int[] at = {0};
            found.add(walkBy((ofFirst, ofBoth) -> {
                if (at[0] == ends.size()) {
                    ends.add(true);
                }
                return ends.get(at[0]++);
            }).sample);
            while (!ends.isEmpty() && !ends.get(ends.size() - 1)) {
                ends.remove(ends.size() - 1);
            }
            if (!ends.isEmpty()) {
                ends.set(ends.size() - 1, false);
            }
        } while (!ends.isEmpty());
        return found;
    }

    int many() {
        return allSamples().size();
    }

    int sizes(int what) {
        if (!in(what, 0, 1)) {
            return refusedBad();
        }
        IntStream all = allSamples().stream().mapToInt(Set::size);
        return (what == 0 ? all.min() : all.max()).getAsInt();
    }

    int can(int u, int v) {
        if (!isUnit(u) || !isUnit(v)) {
            return refusedBad();
        }
        return allSamples().stream().anyMatch(s -> s.contains(u) && s.contains(v)) ? 1 : 0;
    }

    long least() {
        return allSamples().stream().mapToLong(this::miss).min().getAsLong();
    }

    // ---- words

    int type(int c) {
        if (!in(c, 0, 127)) {
            return refusedBad();
        }
        if (text.length() == 120) {
            full++;
            return -4;
        }
        text += (char) c;
        return text.length();
    }

    int clear() {
        int n = text.length();
        text = "";
        return n;
    }

    private record Token(String said, int at) {
        boolean isNumber() {
            return said.matches("[0-9]+");
        }
    }

    private List<Token> tokens() {
        List<Token> all = new ArrayList<>();
        Matcher m = Pattern.compile("[a-z]+|[0-9]+|[^ ]", Pattern.DOTALL).matcher(text);
        while (m.find()) {
            all.add(new Token(m.group(), m.start()));
        }
        return all;
    }

    /** What may stand behind a word, number by number, by how many units there are. */
    private static List<IntPredicate> numbersOf(String word, int unitsByThen) {
        List<IntPredicate> wanted = new ArrayList<>();
        if (word.equals("unit")) {
            for (int most : MOST) {
                wanted.add(v -> v <= most);
            }
        } else if (SETS.contains(word)) {
            wanted.add(v -> v < unitsByThen);
            wanted.add(v -> v <= MOST[SETS.indexOf(word)]);
        } else if (word.equals("walk")) {
            wanted.add(v -> true);
        }
        return wanted;
    }

    /** The fault's place or -1; the sentences, each as its word and numbers, go to the list. */
    private int parse(List<List<String>> sentences) {
        List<Token> all = tokens();
        if (all.isEmpty()) {
            return text.length();
        }
        Set<String> words = new HashSet<>(METHODS);
        words.addAll(SETS);
        words.addAll(List.of("unit", "walk", "many"));
        int n = units.size();
        int i = 0;
        while (i < all.size()) {
            String word = all.get(i).said;
            if (!words.contains(word) || word.equals("unit") && n == 12) {
                return all.get(i).at;
            }
            List<String> sentence = new ArrayList<>(List.of(word));
            i++;
            for (IntPredicate wanted : numbersOf(word, n)) {
                if (i == all.size()) {
                    return text.length();
                }
                Token t = all.get(i++);
                int figures = word.equals("walk") ? 6 : 2;
                if (!t.isNumber() || t.said.length() > figures || !wanted.test(Integer.parseInt(t.said))) {
                    return t.at;
                }
                sentence.add(t.said);
            }
            if (i == all.size()) {
                return text.length();
            }
            if (!all.get(i).said.equals(";")) {
                return all.get(i).at;
            }
            i++;
            n += word.equals("unit") ? 1 : 0;
            sentences.add(sentence);
        }
        return -1;
    }

    private String done(List<String> sentence) {
        String word = sentence.get(0);
        int[] n = sentence.stream().skip(1).mapToInt(Integer::parseInt).toArray();
        if (METHODS.contains(word)) {
            return METHODS.get(method(METHODS.indexOf(word)));
        }
        if (SETS.contains(word)) {
            return "" + sets(n[0], SETS.indexOf(word), n[1]);
        }
        if (word.equals("unit")) {
            return "" + unit(n);
        }
        if (word.equals("many")) {
            return "" + last.sample.size();
        }
        walk(n[0]);
        return last.sample.isEmpty() ? "-" : last.sample.stream().map(String::valueOf).collect(Collectors.joining("+"));
    }

    int says() {
        List<List<String>> sentences = new ArrayList<>();
        int fault = parse(sentences);
        if (fault != -1) {
            return -10 - fault;
        }
        String whole = sentences.stream().map(this::done).collect(Collectors.joining(" "));
        answer = whole.substring(0, Math.min(300, whole.length()));
        return sentences.size();
    }

    int answer(int k) {
        if (k < -1) {
            refusedBad();
            return -10;
        }
        if (k == -1) {
            return answer.length();
        }
        return k < answer.length() ? answer.charAt(k) : -5;
    }

    int told(int what) {
        int[] all = {bad, 0, full, text.length(), units.size(), method, answer.length()};
        return in(what, 0, 6) ? all[what] : refusedBad();
    }

    long digest() {
        List<Integer> all = new ArrayList<>();
        IntStream.rangeClosed(0, 6).forEach(w -> all.add(told(w)));
        IntStream.range(0, units.size()).forEach(u -> IntStream.rangeClosed(0, 5).forEach(w -> all.add(of(u, w))));
        IntStream.rangeClosed(0, 3).forEach(w -> all.add(was(w)));
        answer.chars().forEach(all::add);
        long h = 2029;
        for (int v : all) {
            h = h * 31 + v;
        }
        return h;
    }
}
