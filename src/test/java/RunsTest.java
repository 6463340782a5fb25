import java.util.ArrayList;
import java.util.List;

/** Long runs of calls, thrown the same way each time, asked of the class and of the reference. */
public final class RunsTest {
    private static final int CALLS = 512;

    private final Dice dice;
    private final TextMachines own;
    private final Reference due;
    private final List<String> calls = new ArrayList<>();
    private final int[] answered = new int[6];

    private RunsTest(int run) {
        dice = new Dice(run);
        int letters = dice.around(2, 4);
        own = new TextMachines(letters);
        due = new Reference(letters);
        calls.add("new TextMachines(" + letters + ")");
    }

    public static void main(String[] args) {
        int runs = args.length > 0 ? Integer.parseInt(args[0]) : 120;
        int[] answers = new int[6];
        for (int run = 0; run < runs; run++) {
            RunsTest test = new RunsTest(run);
            if (!test.play(run)) {
                break;
            }
            for (int i = 0; i < answers.length; i++) {
                answers[i] += test.answered[i];
            }
        }
        String[] names = {"at least 0", "NONE", "BAD", "FULL", "LARGE", "ENDLESS"};
        for (int i = 0; i < names.length; i++) {
            System.out.println(names[i] + ": " + answers[i]);
            Check.holds("some calls answer " + names[i], answers[i] > 0);
        }
        Check.finish();
    }

    private boolean play(int run) {
        // Some runs keep machines small, some let them grow, some fill the shelf with constants.
        int style = run % 4;
        for (int i = 0; i < CALLS; i++) {
            long[] both = style == 3 && i < 300 ? fill() : call(style);
            Check.due("run " + run + ", call " + calls.size() + ": " + calls.get(calls.size() - 1), both[0], both[1]);
            answered[both[0] >= 0 ? 0 : (int) -both[0]]++;
            if (both[0] != both[1]) {
                calls.forEach(System.out::println);
                return false;
            }
        }
        return sameInside(run);
    }

    /** All that can be asked about what there is at the end. */
    private boolean sameInside(int run) {
        boolean same = own.of(0) == due.of(0);
        for (int a = 0; a < due.of(0); a++) {
            same &= own.states(a) == due.states(a);
            for (int s = 0; s < due.states(a); s++) {
                same &= own.end(a, s) == due.end(a, s);
                for (int l = 0; l < due.k; l++) {
                    same &= own.next(a, s, l) == due.next(a, s, l);
                }
            }
        }
        for (int i = 0; i < 101; i++) {
            same &= own.told(i) == due.told(i);
        }
        Check.holds("run " + run + " leaves the same machines and the same text told", same);
        return same;
    }

    private long[] said(String call, long got, long want) {
        calls.add(call);
        return new long[] {got, want};
    }

    private long[] fill() {
        int letter = dice.below(due.k);
        switch (dice.below(4)) {
            case 0: return said("make(0)", own.make(0), due.make(0));
            case 1: return dice.oneIn(8) ? said("wipe()", own.wipe(), due.wipe()) : said("of(2)", own.of(2), due.of(2));
            default: return said("add(" + letter + ")", own.add(letter), due.add(letter));
        }
    }

    private int machine() {
        int there = due.of(0);
        return dice.around(0, Math.max(0, there - 1));
    }

    private long[] call(int style) {
        if (dice.oneIn(400)) {
            return said("clear()", own.clear(), due.clear());
        }
        int sort = dice.below(style == 0 ? 12 : 10);
        if (sort < 3) {
            return text();
        }
        return sort < 7 ? act(style) : ask();
    }

    private long[] text() {
        int letter = dice.around(0, due.k - 1);
        switch (dice.below(12)) {
            case 0: return said("wipe()", own.wipe(), due.wipe());
            case 1: return said("make(0)", own.make(0), due.make(0));
            case 2:
                int what = dice.around(0, 2);
                return said("make(" + what + ")", own.make(what), due.make(what));
            case 3: return numerals();
            default: return said("add(" + letter + ")", own.add(letter), due.add(letter));
        }
    }

    private long[] numerals() {
        int[] tops = {3, 20, 100, 5000, 1000000000};
        int top = tops[dice.below(tops.length)];
        int low = dice.around(0, top);
        int high = dice.oneIn(10) ? dice.around(0, 1000000000) : (int) Math.min(1000000001L, (long) low + dice.below(top));
        return said("numerals(" + low + ", " + high + ")", own.numerals(low, high), due.numerals(low, high));
    }

    private long[] act(int style) {
        int a = machine();
        int b = machine();
        int x = dice.around(0, due.k - 1);
        int y = dice.around(0, due.k - 1);
        boolean yes = dice.oneIn(2);
        int how = dice.around(0, 3);
        int n = dice.oneIn(6) ? dice.around(0, 100) : dice.around(0, 3);
        switch (dice.below(style == 1 ? 20 : 13)) {
            case 0: return said("pair(" + how + ", " + a + ", " + b + ")", own.pair(how, a, b), due.pair(how, a, b));
            case 1: return said("not(" + a + ")", own.not(a), due.not(a));
            case 2: return said("many(" + a + ")", own.many(a), due.many(a));
            case 3: return said("turn(" + a + ")", own.turn(a), due.turn(a));
            case 4: return said("become(" + a + ", " + x + ", " + y + ")", own.become(a, x, y), due.become(a, x, y));
            case 5: return said("drop(" + a + ", " + x + ")", own.drop(a, x), due.drop(a, x));
            case 6: return said("cut(" + a + ", " + n + ")", own.cut(a, n), due.cut(a, n));
            case 7: return said("trim(" + a + ", " + n + ")", own.trim(a, n), due.trim(a, n));
            case 8:
                int which = dice.around(0, 2);
                return said("part(" + a + ", " + which + ")", own.part(a, which), due.part(a, which));
            case 9:
                int d = dice.oneIn(5) ? dice.around(0, 40) : dice.around(0, 4);
                return said("widen(" + a + ", " + d + ")", own.widen(a, d), due.widen(a, d));
            case 10:
                return said("when(" + how + ", " + a + ", " + yes + ")", own.when(how, a, yes), due.when(how, a, yes));
            default: return said("join(" + a + ", " + b + ")", own.join(a, b), due.join(a, b));
        }
    }

    private long[] ask() {
        int a = machine();
        int b = machine();
        int n = dice.oneIn(4) ? dice.around(0, 100) : dice.around(0, 8);
        int i = dice.oneIn(5) ? dice.below(Integer.MAX_VALUE) : dice.around(0, 30);
        int s = dice.around(0, Math.max(0, due.states(a) - 1));
        int l = dice.around(0, due.k - 1);
        int what = dice.oneIn(2) ? 2 : dice.around(0, 3);
        switch (dice.below(12)) {
            case 0: return said("states(" + a + ")", own.states(a), due.states(a));
            case 1: return said("next(" + a + ", " + s + ", " + l + ")", own.next(a, s, l), due.next(a, s, l));
            case 2: return said("end(" + a + ", " + s + ")", own.end(a, s), due.end(a, s));
            case 3: return said("has(" + a + ")", own.has(a), due.has(a));
            case 4: return said("within(" + a + ", " + b + ")", own.within(a, b), due.within(a, b));
            case 5: return said("differ(" + a + ", " + b + ")", own.differ(a, b), due.differ(a, b));
            case 6: return said("count(" + a + ", " + n + ")", own.count(a, n), due.count(a, n));
            case 7: return said("pick(" + a + ", " + i + ")", own.pick(a, i), due.pick(a, i));
            case 8: return said("told(" + n + ")", own.told(n), due.told(n));
            case 9: return said("longest(" + a + ")", own.longest(a), due.longest(a));
            default: return said("of(" + what + ")", own.of(what), due.of(what));
        }
    }
}
