import java.math.BigInteger;
import java.util.ArrayList;
import java.util.Arrays;
import java.util.HashMap;
import java.util.HashSet;
import java.util.LinkedHashMap;
import java.util.List;
import java.util.Map;
import java.util.Set;
import java.util.TreeSet;
import java.util.function.BiFunction;
import java.util.function.Function;
import java.util.function.Predicate;

/**
 * The document once more, as plainly as the Java library lets it be said: sets are sets, places
 * are any objects, states are told apart two by two, numbers have no bounds. For tests alone.
 */
final class Reference {
    static final int NONE = -1, BAD = -2, FULL = -3, LARGE = -4, ENDLESS = -5;

    /** next.get(s)[l], ends.contains(s). */
    record Machine(List<List<Integer>> next, Set<Integer> ends) {
        int size() {
            return next.size();
        }

        int go(int s, int l) {
            return next.get(s).get(l);
        }

        boolean has(List<Integer> text) {
            int s = 0;
            for (int l : text) {
                s = go(s, l);
            }
            return ends.contains(s);
        }
    }

    record Duo(Object left, Object right) {
    }

    static final class TooMany extends RuntimeException {
        private static final long serialVersionUID = 1L;
    }

    final int k;
    final List<Machine> machines = new ArrayList<>();
    final List<Integer> collected = new ArrayList<>();
    List<Integer> told = null;
    int came = 0;

    Reference(int letters) {
        k = letters < 2 ? 2 : letters > 4 ? 4 : letters;
    }

    int clear() {
        int n = machines.size();
        machines.clear();
        collected.clear();
        told = null;
        came = 0;
        return n;
    }

    int add(int letter) {
        if (badLetter(letter)) return BAD;
        if (collected.size() == 100) return FULL;
        collected.add(letter);
        return collected.size();
    }

    int wipe() {
        int n = collected.size();
        collected.clear();
        return n;
    }

    int make(int what) {
        if (what < 0 || what > 2) return BAD;
        came = 0;
        if (what == 0) return keep(least(new ArrayList<Integer>(), this::withLetter, collected::equals));
        return keep(least(0, (p, l) -> 0, p -> what == 1));
    }

    /** What has been read; null, once it is no beginning of COLLECTED. */
    private List<Integer> withLetter(List<Integer> read, int letter) {
        if (read == null) return null;
        List<Integer> longer = new ArrayList<>(read);
        longer.add(letter);
        return beginsWith(collected, longer) ? longer : null;
    }

    private static boolean beginsWith(List<Integer> text, List<Integer> part) {
        return part.size() <= text.size() && text.subList(0, part.size()).equals(part);
    }

    int pair(int how, int a, int b) {
        if (how < 0 || how > 3 || bad(a) || bad(b)) return BAD;
        return act(() -> pairOf(how, machines.get(a), machines.get(b)));
    }

    private Machine pairOf(int how, Machine a, Machine b) {
        return placed(new Duo(0, 0),
            (p, l) -> new Duo(a.go((int) p.left(), l), b.go((int) p.right(), l)),
            p -> {
                int ins = (a.ends.contains(p.left()) ? 1 : 0) + (b.ends.contains(p.right()) ? 2 : 0);
                return new boolean[][] {{false, false, false, true}, {false, true, true, true},
                    {false, true, false, false}, {false, true, true, false}}[how][ins];
            });
    }

    int not(int a) {
        if (bad(a)) return BAD;
        came = 0;
        Machine m = machines.get(a);
        return keep(least(0, m::go, s -> !m.ends.contains(s)));
    }

    int join(int a, int b) {
        if (bad(a) || bad(b)) return BAD;
        Machine x = machines.get(a);
        Machine y = machines.get(b);
        BiFunction<Integer, Set<Integer>, Duo> place = (s, set) -> {
            Set<Integer> with = new TreeSet<>(set);
            if (x.ends.contains(s)) with.add(0);
            return new Duo(s, with);
        };
        return act(() -> placed(place.apply(0, Set.of()),
            (p, l) -> place.apply(x.go((int) p.left(), l), step(y, set(p.right()), l)),
            p -> meets(set(p.right()), y.ends)));
    }

    @SuppressWarnings("unchecked")
    private static Set<Integer> set(Object o) {
        return (Set<Integer>) o;
    }

    int many(int a) {
        if (bad(a)) return BAD;
        Machine m = machines.get(a);
        return act(() -> placed((Object) "the beginning",
            (p, l) -> {
                Set<Integer> to = step(m, p instanceof String ? Set.of(0) : set(p), l);
                if (meets(to, m.ends)) to.add(0);
                return to;
            },
            p -> p instanceof String || meets(set(p), m.ends)));
    }

    int turn(int a) {
        if (bad(a)) return BAD;
        Machine m = machines.get(a);
        return act(() -> placed((Set<Integer>) new TreeSet<>(m.ends),
            (p, l) -> states(m, s -> p.contains(m.go(s, l))),
            p -> p.contains(0)));
    }

    int become(int a, int x, int y) {
        if (bad(a) || badLetter(x) || badLetter(y)) return BAD;
        Machine m = machines.get(a);
        return act(() -> placed(one(0),
            (p, l) -> {
                Set<Integer> to = new TreeSet<>();
                for (int from = 0; from < k; from++) {
                    if ((from == x ? y : from) == l) to.addAll(step(m, p, from));
                }
                return to;
            },
            p -> meets(p, m.ends)));
    }

    int drop(int a, int x) {
        if (bad(a) || badLetter(x)) return BAD;
        Machine m = machines.get(a);
        Function<Set<Integer>, Set<Integer>> more = p -> {
            Set<Integer> all = new TreeSet<>(p);
            while (all.addAll(step(m, all, x))) {
                continue;
            }
            return all;
        };
        return act(() -> placed(more.apply(one(0)),
            (p, l) -> l == x ? new TreeSet<Integer>() : more.apply(step(m, p, l)),
            p -> meets(p, m.ends)));
    }

    int cut(int a, int n) {
        if (bad(a) || n < 0 || n > 100) return BAD;
        Machine m = machines.get(a);
        Set<Integer> first = one(0);
        for (int i = 0; i < n; i++) {
            Set<Integer> now = first;
            first = states(m, t -> now.stream().anyMatch(s -> m.next.get(s).contains(t)));
        }
        Set<Integer> start = first;
        return act(() -> placed(start, (p, l) -> step(m, p, l), p -> meets(p, m.ends)));
    }

    int trim(int a, int n) {
        if (bad(a) || n < 0 || n > 100) return BAD;
        came = 0;
        Machine m = machines.get(a);
        return keep(least(0, m::go, s -> texts(m, s, n).signum() > 0));
    }

    int part(int a, int how) {
        if (bad(a) || how < 0 || how > 2) return BAD;
        Machine m = machines.get(a);
        Predicate<Integer> live = s -> reached(m, s).stream().anyMatch(m.ends::contains);
        if (how == 0) {
            came = 0;
            return keep(least(0, m::go, live));
        }
        return act(() -> placed(states(m, s -> true), (p, l) -> step(m, p, l),
            p -> how == 1 ? meets(p, m.ends) : p.stream().anyMatch(live)));
    }

    private Set<Integer> reached(Machine m, int from) {
        Set<Integer> all = one(from);
        boolean more = true;
        while (more) {
            more = false;
            for (int l = 0; l < k; l++) {
                more |= all.addAll(step(m, all, l));
            }
        }
        return all;
    }

    int widen(int a, int d) {
        if (bad(a) || d < 0 || d > 40) return BAD;
        Machine m = machines.get(a);
        Map<List<Integer>, Boolean> known = new HashMap<>();
        Function<Set<Integer>, Set<Integer>> more =
            p -> states(m, s -> p.stream().anyMatch(t -> like(m, s, t, d, known)));
        return act(() -> placed(more.apply(one(0)), (p, l) -> more.apply(step(m, p, l)),
            p -> meets(p, m.ends)));
    }

    private boolean like(Machine m, int s, int t, int d, Map<List<Integer>, Boolean> known) {
        if (m.ends.contains(s) != m.ends.contains(t)) return false;
        if (d == 0 || s == t) return true;
        List<Integer> key = List.of(s, t, d);
        Boolean before = known.get(key);
        if (before != null) return before;
        boolean same = true;
        for (int l = 0; l < k && same; l++) {
            same = like(m, m.go(s, l), m.go(t, l), d - 1, known);
        }
        known.put(key, same);
        return same;
    }

    int when(int op, int a, boolean yes) {
        if (op < 0 || op > 3 || bad(a)) return BAD;
        came = 0;
        // what has been read, as far as the condition still needs it
        Machine c = least((List<Integer>) new ArrayList<Integer>(), (p, l) -> readOn(op, p, l),
            p -> p != null && p.equals(collected));
        if (c.size() > 40) return LARGE;
        return act(() -> pairOf(yes ? 0 : 2, machines.get(a), c));
    }

    private List<Integer> readOn(int op, List<Integer> read, int letter) {
        if (read != null && read.equals(collected) && (op == 1 || op == 3)) return read;
        if (op < 2) return withLetter(read, letter);
        List<Integer> text = new ArrayList<>(read);
        text.add(letter);
        while (!beginsWith(collected, text)) {
            text.remove(0);
        }
        return text;
    }

    int numerals(int low, int high) {
        if (low < 0 || low > 1000000000 || high < 0 || high > 1000000000 || low > high) return BAD;
        came = 0;
        Machine m = least((Object) "start", (p, l) -> readDigit(p, l, low, high), p -> isMet(p));
        return keep(m);
    }

    /** Behind the start: which texts of 0, 1, .. digits, as numbers, make a numeral from here on. */
    private Object readDigit(Object place, int digit, long low, long high) {
        boolean start = place.equals("start");
        List<List<Long>> spans = new ArrayList<>();
        long size = 1;
        for (int more = 0; more < 31; more++, size *= k) {
            if (size > 4000000000L) {
                break;
            }
            long from = 0;
            long to = -1;
            if (start && (digit > 0 || more == 0)) {
                from = low;
                to = high;
            } else if (!start && more + 1 < spansOf(place).size()) {
                from = spansOf(place).get(more + 1).get(0);
                to = spansOf(place).get(more + 1).get(1);
            }
            from = Math.max(from - digit * size, 0);
            to = Math.min(to - digit * size, size - 1);
            spans.add(from <= to ? List.of(from, to) : List.of(0L, -1L));
        }
        return spans;
    }

    @SuppressWarnings("unchecked")
    private static List<List<Long>> spansOf(Object place) {
        return (List<List<Long>>) place;
    }

    private static boolean isMet(Object place) {
        return !place.equals("start") && spansOf(place).get(0).get(1) == 0L;
    }

    int states(int a) {
        return bad(a) ? BAD : machines.get(a).size();
    }

    int next(int a, int state, int letter) {
        if (bad(a) || state < 0 || state >= machines.get(a).size() || badLetter(letter)) return BAD;
        return machines.get(a).go(state, letter);
    }

    int end(int a, int state) {
        if (bad(a) || state < 0 || state >= machines.get(a).size()) return BAD;
        return machines.get(a).ends.contains(state) ? 1 : 0;
    }

    int has(int a) {
        return bad(a) ? BAD : machines.get(a).has(collected) ? 1 : 0;
    }

    int within(int a, int b) {
        if (bad(a) || bad(b)) return BAD;
        return firstText(machines.get(a), machines.get(b), (x, y) -> x && !y) == null ? 1 : 0;
    }

    int differ(int a, int b) {
        if (bad(a) || bad(b)) return BAD;
        List<Integer> text = firstText(machines.get(a), machines.get(b), (x, y) -> x.booleanValue() != y.booleanValue());
        if (text == null) return NONE;
        told = text;
        return text.size();
    }

    private List<Integer> firstText(Machine a, Machine b, BiFunction<Boolean, Boolean, Boolean> wanted) {
        Map<Duo, List<Integer>> ways = new LinkedHashMap<>();
        List<Duo> queue = new ArrayList<>();
        ways.put(new Duo(0, 0), List.of());
        queue.add(new Duo(0, 0));
        for (int i = 0; i < queue.size(); i++) {
            Duo at = queue.get(i);
            int s = (int) at.left();
            int t = (int) at.right();
            if (wanted.apply(a.ends.contains(s), b.ends.contains(t))) return ways.get(at);
            for (int l = 0; l < k; l++) {
                Duo to = new Duo(a.go(s, l), b.go(t, l));
                if (ways.containsKey(to)) continue;
                List<Integer> way = new ArrayList<>(ways.get(at));
                way.add(l);
                ways.put(to, way);
                queue.add(to);
            }
        }
        return null;
    }

    long count(int a, int n) {
        if (bad(a) || n < 0 || n > 100) return BAD;
        return texts(machines.get(a), 0, n).min(new BigInteger("1000000000000000000")).longValueExact();
    }

    private final Map<Machine, Map<List<Integer>, BigInteger>> counted = new HashMap<>();

    /** How many texts of n letters lead from s to an end. */
    private BigInteger texts(Machine m, int s, int n) {
        Map<List<Integer>, BigInteger> known = counted.computeIfAbsent(m, x -> new HashMap<>());
        for (int len = 0; len <= n; len++) {
            if (known.containsKey(List.of(0, len))) continue;
            for (int t = 0; t < m.size(); t++) {
                BigInteger sum = BigInteger.ZERO;
                if (len == 0 && m.ends.contains(t)) sum = BigInteger.ONE;
                for (int l = 0; l < k && len > 0; l++) {
                    sum = sum.add(known.get(List.of(m.go(t, l), len - 1)));
                }
                known.put(List.of(t, len), sum);
            }
        }
        return known.get(List.of(s, n));
    }

    int pick(int a, int i) {
        if (bad(a) || i < 0) return BAD;
        Machine m = machines.get(a);
        BigInteger rest = BigInteger.valueOf(i);
        for (int n = 0; n <= 100; n++) {
            BigInteger here = texts(m, 0, n);
            if (rest.compareTo(here) < 0) {
                List<Integer> text = new ArrayList<>();
                int s = 0;
                for (int left = n - 1; left >= 0; left--) {
                    int l = 0;
                    while (rest.compareTo(texts(m, m.go(s, l), left)) >= 0) {
                        rest = rest.subtract(texts(m, m.go(s, l), left));
                        l++;
                    }
                    text.add(l);
                    s = m.go(s, l);
                }
                told = text;
                return n;
            }
            rest = rest.subtract(here);
        }
        return NONE;
    }

    int told(int i) {
        return told == null || i < 0 || i >= told.size() ? NONE : told.get(i);
    }

    int longest(int a) {
        if (bad(a)) return BAD;
        Machine m = machines.get(a);
        Set<Integer> live = new HashSet<>(states(m, s -> reached(m, s).stream().anyMatch(m.ends::contains)));
        if (live.isEmpty()) return NONE;
        // take away states that lead to no live state, again and again: what stays is a ring
        int rounds = 0;
        while (!live.isEmpty()) {
            Set<Integer> now = live;
            Set<Integer> rest = states(m, s -> now.contains(s) && m.next.get(s).stream().anyMatch(now::contains));
            if (rest.size() == live.size()) return ENDLESS;
            live = new HashSet<>(rest);
            rounds++;
        }
        return rounds - 1;
    }

    int of(int what) {
        switch (what) {
            case 0: return machines.size();
            case 1: return collected.size();
            case 2: return came;
            case 3: return k;
            default: return BAD;
        }
    }

    private boolean bad(int a) {
        return a < 0 || a >= machines.size();
    }

    private boolean badLetter(int l) {
        return l < 0 || l >= k;
    }

    private static Set<Integer> one(int s) {
        return new TreeSet<>(Set.of(s));
    }

    private static Set<Integer> states(Machine m, Predicate<Integer> which) {
        Set<Integer> all = new TreeSet<>();
        for (int s = 0; s < m.size(); s++) {
            if (which.test(s)) all.add(s);
        }
        return all;
    }

    private static Set<Integer> step(Machine m, Set<Integer> from, int l) {
        Set<Integer> to = new TreeSet<>();
        for (int s : from) {
            to.add(m.go(s, l));
        }
        return to;
    }

    private static boolean meets(Set<Integer> a, Set<Integer> b) {
        return a.stream().anyMatch(b::contains);
    }

    private interface Making {
        Machine make();
    }

    private int act(Making making) {
        try {
            return keep(making.make());
        } catch (TooMany e) {
            return LARGE;
        }
    }

    private int keep(Machine m) {
        if (m.size() > 40) return LARGE;
        int at = machines.indexOf(m);
        if (at >= 0) return at;
        if (machines.size() == 60) return FULL;
        machines.add(m);
        return machines.size() - 1;
    }

    private <P> Machine placed(P first, BiFunction<P, Integer, P> next, Predicate<P> end) {
        return build(first, next, end, true);
    }

    private <P> Machine least(P first, BiFunction<P, Integer, P> next, Predicate<P> end) {
        return build(first, next, end, false);
    }

    private <P> Machine build(P first, BiFunction<P, Integer, P> next, Predicate<P> end, boolean counted) {
        Map<P, Integer> numbers = new HashMap<>();
        List<P> places = new ArrayList<>(Arrays.asList(first));
        numbers.put(first, 0);
        List<int[]> steps = new ArrayList<>();
        for (int i = 0; i < places.size(); i++) {
            int[] row = new int[k];
            for (int l = 0; l < k; l++) {
                P to = next.apply(places.get(i), l);
                if (!numbers.containsKey(to)) {
                    numbers.put(to, places.size());
                    places.add(to);
                }
                row[l] = numbers.get(to);
            }
            steps.add(row);
            if (counted && places.size() > 200) {
                came = 201;
                throw new TooMany();
            }
        }
        if (counted) came = places.size();
        boolean[] ends = new boolean[places.size()];
        for (int i = 0; i < ends.length; i++) {
            ends[i] = end.test(places.get(i));
        }
        return numbered(steps, ends, apart(steps, ends));
    }

    /** Which places some text tells apart: two by two, until no more are found. */
    private boolean[][] apart(List<int[]> steps, boolean[] ends) {
        int n = ends.length;
        boolean[][] apart = new boolean[n][n];
        boolean more = true;
        while (more) {
            more = false;
            for (int i = 0; i < n; i++) {
                for (int j = 0; j < n; j++) {
                    if (apart[i][j]) continue;
                    boolean now = ends[i] != ends[j];
                    for (int l = 0; l < k; l++) {
                        now |= apart[steps.get(i)[l]][steps.get(j)[l]];
                    }
                    apart[i][j] = now;
                    more |= now;
                }
            }
        }
        return apart;
    }

    /** One state for places that are not apart, numbered as they are come to. */
    private Machine numbered(List<int[]> steps, boolean[] ends, boolean[][] apart) {
        List<Integer> chosen = new ArrayList<>(List.of(0));
        List<List<Integer>> next = new ArrayList<>();
        Set<Integer> lasts = new TreeSet<>();
        for (int i = 0; i < chosen.size(); i++) {
            List<Integer> row = new ArrayList<>();
            for (int l = 0; l < k; l++) {
                int to = steps.get(chosen.get(i))[l];
                int at = 0;
                while (at < chosen.size() && apart[chosen.get(at)][to]) {
                    at++;
                }
                if (at == chosen.size()) chosen.add(to);
                row.add(at);
            }
            next.add(row);
            if (ends[chosen.get(i)]) lasts.add(i);
        }
        return new Machine(next, lasts);
    }
}
