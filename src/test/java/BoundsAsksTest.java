import static java.lang.Integer.MAX_VALUE;
import static java.lang.Integer.MIN_VALUE;

/**
 * The boundary cases of a new object and COLLECTED, promises 1 to 4, and of the questions, promises
 * 19 to 29, each with the words that name it.
 */
public final class BoundsAsksTest {
    private static final int NONE = TextMachines.NONE, BAD = TextMachines.BAD, FULL = TextMachines.FULL,
        LARGE = TextMachines.LARGE, ENDLESS = TextMachines.ENDLESS;
    private static final String BAD_WORDS = "BAD (a number is none, or out of its bounds)";
    private static final long HIGHEST_COUNT = 1000000000000000000L;

    /** The machine of 01 alone in an object with three machines. */
    private static final int ZERO_ONE = 1;

    private BoundsAsksTest() {
    }

    public static void main(String[] args) {
        newCases();
        clearCases();
        addCases();
        wipeCases();
        Check.covered(1, 4);
        statesCases();
        nextCases();
        endCases();
        hasCases();
        withinCases();
        differCases();
        countCases();
        pickCases();
        toldCases();
        longestCases();
        ofCases();
        Check.covered(19, 29);
        Check.finish();
    }

    /** 40 states, and the lengths that divide by 40. */
    private static int ring40(TextMachines x) {
        return x.pair(0, Given.ring(x, 5), Given.ring(x, 8));
    }

    // ---- 1 a new object

    private static void newCases() {
        Check.boundary(1, "So many LETTERS, 2 .. 4 (a number that is none counts as the nearest that is)",
            BoundsAsksTest::newLetters);
        Check.boundary(1, "no MACHINES", BoundsAsksTest::newNoMachines);
        Check.boundary(1, "nothing COLLECTED or TOLD, CAME 0", BoundsAsksTest::newNothing);
    }

    private static void newLetters() {
        int[] asked = {MIN_VALUE, -1, 0, 1, 2, 3, 4, 5, 6, 100, MAX_VALUE};
        int[] due = {2, 2, 2, 2, 2, 3, 4, 4, 4, 4, 4};
        for (int i = 0; i < asked.length; i++) {
            TextMachines x = new TextMachines(asked[i]);
            Check.due("of(3) of " + asked[i], x.of(3), due[i]);
            Check.due("its last letter", x.add(due[i] - 1), 1);
            Check.due("one beyond", x.add(due[i]), BAD);
            Check.due("texts of three letters", x.count(x.make(1), 3), due[i] * due[i] * due[i]);
        }
    }

    private static void newNoMachines() {
        TextMachines x = new TextMachines(2);
        Check.due("of(0)", x.of(0), 0);
        int[] answers = {x.pair(0, 0, 0), x.not(0), x.join(0, 0), x.many(0), x.turn(0), x.become(0, 0, 1), x.drop(0, 0),
            x.cut(0, 0), x.trim(0, 0), x.part(0, 0), x.widen(0, 0), x.when(0, 0, true), x.states(0), x.next(0, 0, 0),
            x.end(0, 0), x.has(0), x.within(0, 0), x.differ(0, 0), (int) x.count(0, 0), x.pick(0, 0), x.longest(0)};
        for (int i = 0; i < answers.length; i++) {
            Check.due("call " + i, answers[i], BAD);
        }
        Check.due("of(0) still", x.of(0), 0);
        Check.due("the first one", x.make(2), 0);
    }

    private static void newNothing() {
        for (int letters = 2; letters <= 4; letters++) {
            TextMachines x = new TextMachines(letters);
            Check.due("of(1)", x.of(1), 0);
            Check.due("of(2)", x.of(2), 0);
            Check.due("told(0)", x.told(0), NONE);
            Check.due("wipe", x.wipe(), 0);
            Check.due("clear", x.clear(), 0);
            Check.due("COLLECTED alone has no letters", x.longest(x.make(0)), 0);
        }
    }

    // ---- 2 clear

    private static void clearCases() {
        Check.boundary(2, "how many MACHINES there were", BoundsAsksTest::clearCounts);
        Check.boundary(2, "All as at first", BoundsAsksTest::clearAll);
    }

    private static void clearCounts() {
        TextMachines x = new TextMachines(2);
        Check.due("none", x.clear(), 0);
        x.make(1);
        Check.due("one", x.clear(), 1);
        Check.due("none again", x.clear(), 0);
        Check.due("60", Given.full(2).clear(), 60);
    }

    private static void clearAll() {
        for (int letters = 2; letters <= 4; letters++) {
            String first = Given.state(new TextMachines(letters));
            TextMachines x = Given.full(letters);
            x.clear();
            Check.due("what there is", Given.state(x), first);
            Check.due("CAME", x.of(2), 0);
            Check.due("told(0)", x.told(0), NONE);
            Check.due("add", x.add(0), 1);
            Check.due("machines come again from 0 on", x.make(0), 0);
            Check.due("with the states of now", x.states(0), 3);
            Check.due("and the next one", x.make(1), 1);
            Check.due("no third one", x.states(2), BAD);
            Check.due("many", x.many(0), 2);
        }
    }

    // ---- 3 add

    private static void addCases() {
        Check.boundary(3, "A LETTER more behind COLLECTED: how many it has.", BoundsAsksTest::addCounts);
        Check.boundary(3, BAD_WORDS, () -> Limits.letterBounds((x, letter) -> x.add(letter)));
        Check.boundary(3, "FULL: it has 100.", BoundsAsksTest::addFull);
    }

    private static void addCounts() {
        TextMachines x = new TextMachines(4);
        for (int i = 1; i <= 100; i++) {
            Check.due("letter " + i, x.add(i % 4), i);
            Check.due("of(1)", x.of(1), i);
        }
    }

    private static void addFull() {
        TextMachines x = new TextMachines(2);
        int zeros = x.many(Given.one(x, "0"));
        int one = x.join(zeros, Given.one(x, "1"));
        Given.collect(x, "0".repeat(99));
        Check.due("the 100th", x.add(1), 100);
        Check.due("99 zeros and a one", x.has(one), 1);
        Check.due("a 101st", x.add(0), FULL);
        Check.due("again", x.add(1), FULL);
        Check.due("BAD ahead of FULL", x.add(2), BAD);
        Check.due("BAD ahead of FULL", x.add(-1), BAD);
        Check.due("of(1)", x.of(1), 100);
        Check.due("99 zeros and a one still", x.has(one), 1);
        Check.due("wipe", x.wipe(), 100);
        Check.due("the first one again", x.add(1), 1);
    }

    // ---- 4 wipe

    private static void wipeCases() {
        Check.boundary(4, "COLLECTED has no LETTERS any more: how many it had.", BoundsAsksTest::wipeCounts);
        Check.boundary(4, "COLLECTED has no LETTERS any more", BoundsAsksTest::wipeAlone);
    }

    private static void wipeCounts() {
        TextMachines x = new TextMachines(3);
        Check.due("none", x.wipe(), 0);
        x.add(2);
        Check.due("one", x.wipe(), 1);
        Check.due("none again", x.wipe(), 0);
        Given.collect(x, "2".repeat(100));
        Check.due("100", x.wipe(), 100);
        Check.due("of(1)", x.of(1), 0);
        Check.due("the text without letters", x.longest(x.make(0)), 0);
    }

    private static void wipeAlone() {
        TextMachines x = Given.busy(2);
        x.wipe();
        Check.due("machines stay", x.of(0), 3);
        Check.due("what was told stays", Given.toldText(x), "01");
        Check.due("CAME stays", x.of(2), 6);
        Check.due("COLLECTED is not 01 any more", x.has(ZERO_ONE), 0);
    }

    // ---- 19 states

    private static void statesCases() {
        Check.boundary(19, "How many STATES a MACHINE has.", BoundsAsksTest::statesLeastAndMost);
        Check.boundary(19, BAD_WORDS, () -> Limits.machineBounds((x, a) -> x.states(a)));
    }

    private static void statesLeastAndMost() {
        TextMachines x = new TextMachines(2);
        Check.due("all", x.states(x.make(1)), 1);
        Check.due("none", x.states(x.make(2)), 1);
        Check.due("no letters", x.states(x.make(0)), 2);
        Check.due("a ring", x.states(ring40(x)), 40);
    }

    // ---- 20 next

    private static void nextCases() {
        Check.boundary(20, "The NEXT STATE of a STATE by a LETTER.", BoundsAsksTest::nextFirstAndLast);
        Check.boundary(20, BAD_WORDS, BoundsAsksTest::nextBad);
    }

    private static void nextFirstAndLast() {
        TextMachines x = new TextMachines(2);
        int ring = ring40(x);
        for (int letter = 0; letter < 2; letter++) {
            Check.due("from the first one", x.next(ring, 0, letter), 1);
            Check.due("to the last one", x.next(ring, 38, letter), 39);
            Check.due("from the last one", x.next(ring, 39, letter), 0);
            Check.due("of one state", x.next(x.make(1), 0, letter), 0);
        }
        TextMachines y = new TextMachines(4);
        int three = Given.one(y, "3");
        Check.due("by the first letter", y.next(three, 0, 0), 1);
        Check.due("by the last letter", y.next(three, 0, 3), 2);
    }

    private static void nextBad() {
        Limits.machineBounds((x, a) -> x.next(a, 0, 0));
        Limits.bounds(2, 0, 3, (x, state) -> x.next(ZERO_ONE, state, 0));
        Limits.bounds(2, 0, 0, (x, state) -> x.next(0, state, 1));
        Limits.letterBounds((x, letter) -> x.next(ZERO_ONE, 0, letter));
        TextMachines x = new TextMachines(2);
        int ring = ring40(x);
        Check.due("state 40 of 40", x.next(ring, 40, 0), BAD);
        Check.due("state 40 of 40", x.next(ring, 40, 1), BAD);
    }

    // ---- 21 end

    private static void endCases() {
        Check.boundary(21, "Whether a STATE is an END (1 or 0).", BoundsAsksTest::endFirstAndLast);
        Check.boundary(21, BAD_WORDS, BoundsAsksTest::endBad);
    }

    private static void endFirstAndLast() {
        TextMachines x = new TextMachines(2);
        Check.due("all", x.end(x.make(1), 0), 1);
        Check.due("none", x.end(x.make(2), 0), 0);
        int ring = ring40(x);
        Check.due("first of 40", x.end(ring, 0), 1);
        Check.due("last of 40", x.end(ring, 39), 0);
        int late = x.cut(ring, 1);
        Check.due("first of 40, late", x.end(late, 0), 0);
        Check.due("last of 40, late", x.end(late, 39), 1);
    }

    private static void endBad() {
        Limits.machineBounds((x, a) -> x.end(a, 0));
        Limits.bounds(2, 0, 3, (x, state) -> x.end(ZERO_ONE, state));
        Limits.bounds(2, 0, 0, (x, state) -> x.end(0, state));
        TextMachines x = new TextMachines(2);
        int ring = x.not(ring40(x));
        Check.due("state 39 of 40", x.end(ring, 39), 1);
        Check.due("state 40 of 40", x.end(ring, 40), BAD);
        Check.due("state 64 of 40", x.end(ring, 64), BAD);
    }

    // ---- 22 has

    private static void hasCases() {
        Check.boundary(22, "Whether COLLECTED is IN a MACHINE (1 or 0).", BoundsAsksTest::hasShortAndLong);
        Check.boundary(22, BAD_WORDS, () -> Limits.machineBounds((x, a) -> x.has(a)));
    }

    private static void hasShortAndLong() {
        TextMachines x = new TextMachines(2);
        int all = x.make(1);
        int none = x.make(2);
        int empty = x.make(0);
        int ring = ring40(x);
        x.wipe();
        Check.due("no letters in all", x.has(all), 1);
        Check.due("no letters in none", x.has(none), 0);
        Check.due("no letters alone", x.has(empty), 1);
        Check.due("no letters in a ring", x.has(ring), 1);
        Given.collect(x, "1".repeat(80));
        Check.due("80 letters in a ring", x.has(ring), 1);
        Given.collect(x, "0".repeat(100));
        Check.due("100 letters in a ring", x.has(ring), 0);
        Check.due("100 letters in all", x.has(all), 1);
        Check.due("100 letters in none", x.has(none), 0);
        Check.due("100 letters are not no letters", x.has(empty), 0);
    }

    // ---- 23 within

    private static void withinCases() {
        Check.boundary(23, "Whether all TEXTS IN a are IN b (1 or 0).", BoundsAsksTest::withinNoneAndAll);
        Check.boundary(23, BAD_WORDS, BoundsAsksTest::withinBad);
    }

    private static void withinNoneAndAll() {
        TextMachines x = new TextMachines(2);
        int all = x.make(1);
        int none = x.make(2);
        int empty = x.make(0);
        int[] order = {none, empty, all};
        for (int i = 0; i < order.length; i++) {
            for (int j = 0; j < order.length; j++) {
                Check.due(i + " within " + j, x.within(order[i], order[j]), i <= j ? 1 : 0);
            }
        }
        int ring39 = x.pair(0, Given.ring(x, 3), Given.ring(x, 13));
        int ring40 = ring40(x);
        // each from its last state on: the first text that only one has is of 77 letters
        Check.due("what 77 letters tell", x.within(x.cut(ring39, 1), x.cut(ring40, 2)), 0);
        Check.due("lengths of 40 within those of 5", x.within(ring40, Given.ring(x, 5)), 1);
        Check.due("not the other way", x.within(Given.ring(x, 5), ring40), 0);
    }

    private static void withinBad() {
        Limits.machineBounds((x, a) -> x.within(a, 0));
        Limits.machineBounds((x, b) -> x.within(0, b));
    }

    // ---- 24 differ

    private static void differCases() {
        Check.boundary(24, "The first TEXT in THE ORDER that is IN just one of both is TOLD: how many LETTERS it has.",
            BoundsAsksTest::differFirst);
        Check.boundary(24, "NONE: there is none (what was TOLD stays).", BoundsAsksTest::differNone);
        Check.boundary(24, BAD_WORDS, BoundsAsksTest::differBad);
    }

    private static void differFirst() {
        TextMachines x = new TextMachines(2);
        int all = x.make(1);
        int none = x.make(2);
        Check.due("no letters", x.differ(all, none), 0);
        Check.due("told(0)", x.told(0), NONE);
        int long38 = Given.one(x, "1".repeat(38));
        Check.due("38 letters", x.differ(none, long38), 38);
        Check.due("told", Given.toldText(x), "1".repeat(38));
        Check.due("no letters again", x.differ(none, all), 0);
        Check.due("nothing is left of what was told", Given.toldText(x), "");
        int ring39 = x.cut(x.pair(0, Given.ring(x, 3), Given.ring(x, 13)), 1);
        int ring40 = x.cut(ring40(x), 2);
        Check.due("39 states and 40", x.differ(ring39, ring40), 77);
        Check.due("told", Given.toldText(x), "0".repeat(77));
    }

    private static void differNone() {
        TextMachines x = Given.busy(2);
        for (int a = 0; a < 3; a++) {
            Check.due("with itself", x.differ(a, a), NONE);
            Check.due("what was told stays", Given.toldText(x), "01");
        }
        TextMachines y = new TextMachines(2);
        Check.due("of all", y.differ(y.make(1), y.make(1)), NONE);
        Check.due("nothing was told", y.told(0), NONE);
    }

    private static void differBad() {
        Limits.machineBounds((x, a) -> x.differ(a, 0));
        Limits.machineBounds((x, b) -> x.differ(0, b));
    }

    // ---- 25 count

    private static void countCases() {
        Check.boundary(25, "How many TEXTS of n LETTERS (0 .. 100) are IN a MACHINE", BoundsAsksTest::countLengths);
        Check.boundary(25, "of 1000000000000000000 and more that", BoundsAsksTest::countHighest);
        Check.boundary(25, BAD_WORDS, BoundsAsksTest::countBad);
    }

    private static void countLengths() {
        TextMachines x = new TextMachines(2);
        int all = x.make(1);
        int none = x.make(2);
        int empty = x.make(0);
        Check.due("no letters of all", x.count(all, 0), 1);
        Check.due("no letters of none", x.count(none, 0), 0);
        Check.due("no letters alone", x.count(empty, 0), 1);
        Check.due("one letter of it", x.count(empty, 1), 0);
        Check.due("100 letters of none", x.count(none, 100), 0);
        int ones = x.many(Given.one(x, "1"));
        Check.due("100 letters, all the same", x.count(ones, 100), 1);
        Check.due("100 letters, one of them another", x.count(x.join(ones, x.join(Given.one(x, "0"), ones)), 100), 100);
        int ring = ring40(x);
        Check.due("99 of a ring", x.count(ring, 99), 0);
        Check.due("40 of a ring", x.count(ring, 40), 1L << 40);
    }

    private static void countHighest() {
        TextMachines x = new TextMachines(2);
        int all = x.make(1);
        Check.due("2 to the 59", x.count(all, 59), 576460752303423488L);
        Check.due("2 to the 60", x.count(all, 60), HIGHEST_COUNT);
        Check.due("2 to the 64", x.count(all, 64), HIGHEST_COUNT);
        Check.due("2 to the 100", x.count(all, 100), HIGHEST_COUNT);
        TextMachines y = new TextMachines(3);
        Check.due("3 to the 37", y.count(y.make(1), 37), 450283905890997363L);
        Check.due("3 to the 38", y.count(y.make(1), 38), HIGHEST_COUNT);
        Check.due("3 to the 100", y.count(y.make(1), 100), HIGHEST_COUNT);
        TextMachines z = new TextMachines(4);
        Check.due("4 to the 29", z.count(z.make(1), 29), 288230376151711744L);
        Check.due("4 to the 30", z.count(z.make(1), 30), HIGHEST_COUNT);
        Check.due("4 to the 100", z.count(z.make(1), 100), HIGHEST_COUNT);
        long most = 3814697265625L;
        Check.due("the nearest below it", countBelow(most - 1), (most - 1) << 18);
        Check.due("just that many", countBelow(most), HIGHEST_COUNT);
        Check.due("the nearest above it", countBelow(most + 1), HIGHEST_COUNT);
    }

    /**
     * How many texts of 30 letters 0 .. 3 begin with 21 digits that stand below a number's: as many
     * as the number says, times 2 to the 18. 5 to the 18 makes it 1000000000000000000.
     */
    private static long countBelow(long number) {
        TextMachines x = new TextMachines(4);
        int all = x.make(1);
        int[] lower = {x.make(2), 0, 0, 0};
        for (int letter = 1; letter < 4; letter++) {
            lower[letter] = x.pair(1, lower[letter - 1], x.join(Given.one(x, "" + (letter - 1)), all));
        }
        int below = lower[0];
        for (int digit = 0; digit < 21; digit++) {
            int letter = (int) (number >> 2 * digit & 3);
            below = x.pair(1, lower[letter], x.join(Given.one(x, "" + letter), below));
        }
        return x.count(below, 30);
    }

    private static void countBad() {
        Limits.bounds(2, 0, 100, (x, n) -> (int) Math.max(BAD, Math.min(9, x.count(ZERO_ONE, n))));
        Limits.machineBounds((x, a) -> (int) Math.max(BAD, Math.min(9, x.count(a, 0))));
    }

    // ---- 26 pick

    private static void pickCases() {
        Check.boundary(26, "ahead of which i (0 or more) stand in THE ORDER", BoundsAsksTest::pickFirstAndLast);
        Check.boundary(26, "NONE: there is none such", BoundsAsksTest::pickNone);
        Check.boundary(26, "or it has more than 100 (what was TOLD stays)", BoundsAsksTest::pickTooLong);
        Check.boundary(26, BAD_WORDS, BoundsAsksTest::pickBad);
    }

    private static void pickFirstAndLast() {
        TextMachines x = new TextMachines(2);
        int all = x.make(1);
        Check.due("the first one", x.pick(all, 0), 0);
        Check.due("told", Given.toldText(x), "");
        Check.due("the one of 31 letters", x.pick(all, MAX_VALUE), 31);
        Check.due("told", Given.toldText(x), "0".repeat(31));
        Check.due("the one ahead", x.pick(all, MAX_VALUE - 1), 30);
        Check.due("told", Given.toldText(x), "1".repeat(30));
        int a = Given.some(x, "1", "00");
        Check.due("the first of two", x.pick(a, 0), 1);
        Check.due("told", Given.toldText(x), "1");
        Check.due("the last of two", x.pick(a, 1), 2);
        Check.due("told", Given.toldText(x), "00");
        TextMachines y = new TextMachines(4);
        // 1 + 4 + .. + 4 to the 15 is 1431655765: the rest is counted among texts of 16 letters
        Check.due("of four letters", y.pick(y.make(1), MAX_VALUE), 16);
        Check.due("told", Given.toldText(y), "0222222222222222");
    }

    private static void pickNone() {
        TextMachines x = Given.busy(2);
        Check.due("behind the last one", x.pick(ZERO_ONE, 1), NONE);
        Check.due("told", Given.toldText(x), "01");
        Check.due("far behind it", x.pick(ZERO_ONE, MAX_VALUE), NONE);
        Check.due("told", Given.toldText(x), "01");
        Check.due("the first of none", x.pick(x.make(2), 0), NONE);
        Check.due("told", Given.toldText(x), "01");
        TextMachines y = new TextMachines(2);
        Check.due("the first of none", y.pick(y.make(2), 0), NONE);
        Check.due("nothing was told", y.told(0), NONE);
    }

    private static void pickTooLong() {
        TextMachines x = new TextMachines(2);
        int ones = x.many(Given.one(x, "1"));
        Check.due("100 letters", x.pick(ones, 100), 100);
        Check.due("told(99)", x.told(99), 1);
        int others = x.many(Given.one(x, "0"));
        Check.due("101 letters", x.pick(others, 101), NONE);
        Check.due("far more", x.pick(others, MAX_VALUE), NONE);
        Check.due("told stays", Given.toldText(x), "1".repeat(100));
        int rows = x.many(Given.one(x, "0".repeat(25)));
        Check.due("four times 25", x.pick(rows, 4), 100);
        Check.due("five times 25", x.pick(rows, 5), NONE);
        int wide = x.many(Given.one(x, "0".repeat(34)));
        Check.due("two times 34", x.pick(wide, 2), 68);
        Check.due("three times 34", x.pick(wide, 3), NONE);
        Check.due("told stays", Given.toldText(x), "0".repeat(68));
    }

    private static void pickBad() {
        Limits.bounds(2, 0, MAX_VALUE, (x, i) -> x.pick(ZERO_ONE, i));
        Limits.machineBounds((x, a) -> x.pick(a, 0));
        Limits.isBad(2, false, -1, (x, i) -> x.pick(x.many(ZERO_ONE), i));
    }

    // ---- 27 told

    private static void toldCases() {
        Check.boundary(27, "LETTER i of what was TOLD last.", BoundsAsksTest::toldLast);
        Check.boundary(27, "NONE: it has none such", BoundsAsksTest::toldBeyond);
        Check.boundary(27, "or nothing was TOLD", BoundsAsksTest::toldNothing);
    }

    private static void toldLast() {
        TextMachines x = new TextMachines(4);
        int a = Given.one(x, "3120");
        int b = Given.one(x, "23");
        x.pick(a, 0);
        Check.due("the first letter", x.told(0), 3);
        Check.due("the last letter", x.told(3), 0);
        x.pick(b, 0);
        Check.due("the first letter of another", x.told(0), 2);
        Check.due("the last letter of another", x.told(1), 3);
        Check.due("nothing is left behind it", x.told(2), NONE);
        x.differ(a, x.make(2));
        Check.due("by differ", Given.toldText(x), "3120");
    }

    private static void toldBeyond() {
        TextMachines x = Given.busy(2);
        int[] none = {MIN_VALUE, -2, -1, 2, 3, 99, 100, 101, MAX_VALUE};
        for (int i : none) {
            Check.due("told(" + i + ") of two letters", x.told(i), NONE);
        }
        int ones = x.many(Given.one(x, "1"));
        x.pick(ones, 100);
        Check.due("told(99) of 100", x.told(99), 1);
        Check.due("told(100) of 100", x.told(100), NONE);
        Check.due("told(-1) of 100", x.told(-1), NONE);
        x.pick(ones, 0);
        Check.due("told(0) of no letters", x.told(0), NONE);
        Check.due("told(99) of no letters", x.told(99), NONE);
    }

    private static void toldNothing() {
        int[] at = {MIN_VALUE, -1, 0, 1, 99, 100, MAX_VALUE};
        TextMachines x = new TextMachines(2);
        TextMachines cleared = Given.busy(2);
        cleared.clear();
        Given.collect(x, "11");
        x.make(0);
        for (int i : at) {
            Check.due("told(" + i + ")", x.told(i), NONE);
            Check.due("told(" + i + ") after clear", cleared.told(i), NONE);
        }
        Check.due("count tells nothing", x.count(0, 2) + x.told(0), 0);
        Check.due("within tells nothing", x.within(0, 0) + x.told(0), 0);
        Check.due("longest tells nothing", x.longest(0) + x.told(0), 1);
    }

    // ---- 28 longest

    private static void longestCases() {
        Check.boundary(28, "How many LETTERS the longest TEXT IN a MACHINE has.", BoundsAsksTest::longestLengths);
        Check.boundary(28, "NONE: none is IN it", BoundsAsksTest::longestNone);
        Check.boundary(28, "ENDLESS", BoundsAsksTest::longestEndless);
        Check.boundary(28, BAD_WORDS, () -> Limits.machineBounds((x, a) -> x.longest(a)));
    }

    private static void longestLengths() {
        TextMachines x = new TextMachines(2);
        Check.due("no letters", x.longest(x.make(0)), 0);
        Check.due("one letter", x.longest(Given.one(x, "1")), 1);
        Check.due("38 letters", x.longest(Given.one(x, "01".repeat(19))), 38);
        Check.due("the longest of some", x.longest(Given.some(x, "", "11111", "0")), 5);
        TextMachines y = new TextMachines(4);
        Check.due("15 digits", y.longest(y.numerals(0, 1000000000)), 15);
    }

    private static void longestNone() {
        TextMachines x = new TextMachines(2);
        int none = x.make(2);
        Check.due("none", x.longest(none), NONE);
        Check.due("none, joined", x.longest(x.join(none, x.make(1))), NONE);
        Check.due("none, cut off", x.longest(x.cut(Given.one(x, "01"), 3)), NONE);
    }

    private static void longestEndless() {
        TextMachines x = new TextMachines(2);
        Check.due("all", x.longest(x.make(1)), ENDLESS);
        Check.due("a ring of 40", x.longest(ring40(x)), ENDLESS);
        Check.due("all but 38 letters", x.longest(x.not(Given.one(x, "0".repeat(38)))), ENDLESS);
        Check.due("one more behind 38", x.longest(x.join(Given.one(x, "0".repeat(37)), x.many(Given.one(x, "1")))), ENDLESS);
        Check.due("the last state turns to itself alone", x.longest(x.many(Given.one(x, "1"))), ENDLESS);
    }

    // ---- 29 of

    private static void ofCases() {
        Check.boundary(29, "What = 0 how many MACHINES there are", BoundsAsksTest::ofMachines);
        Check.boundary(29, "1 how many LETTERS COLLECTED has", BoundsAsksTest::ofCollected);
        Check.boundary(29, "2 CAME", BoundsAsksTest::ofCame);
        Check.boundary(29, "3 LETTERS", BoundsAsksTest::ofLetters);
        Check.boundary(29, BAD_WORDS, () -> Limits.bounds(2, 0, 3, (x, what) -> x.of(what)));
    }

    private static void ofMachines() {
        TextMachines x = new TextMachines(2);
        Check.due("none", x.of(0), 0);
        x.make(1);
        Check.due("one", x.of(0), 1);
        Given.fillShelf(x);
        Check.due("60", x.of(0), 60);
        x.make(2);
        Check.due("60 after FULL", x.of(0), 60);
    }

    private static void ofCollected() {
        TextMachines x = new TextMachines(2);
        Check.due("none", x.of(1), 0);
        Given.collect(x, "1".repeat(100));
        Check.due("100", x.of(1), 100);
        x.add(1);
        Check.due("100 after FULL", x.of(1), 100);
        x.wipe();
        Check.due("none again", x.of(1), 0);
    }

    private static void ofCame() {
        TextMachines x = new TextMachines(2);
        Check.due("at first", x.of(2), 0);
        x.many(x.make(1));
        Check.due("of many", x.of(2), 2);
        x.make(1);
        Check.due("of make", x.of(2), 0);
        x.many(x.cut(x.numerals(23, 77), 1));
        Check.due("the most", x.of(2), 200);
        Check.due("one more", x.many(x.cut(x.numerals(29, 71), 1)), LARGE);
        Check.due("one more", x.of(2), 201);
        x.many(-1);
        Check.due("after BAD", x.of(2), 201);
    }

    private static void ofLetters() {
        for (int letters = 2; letters <= 4; letters++) {
            TextMachines x = new TextMachines(letters);
            Check.due("of(3)", x.of(3), letters);
            x.clear();
            Check.due("of(3) after clear", x.of(3), letters);
        }
    }
}
