import static java.lang.Integer.MAX_VALUE;
import static java.lang.Integer.MIN_VALUE;

/** The boundary cases that the document's terms name, each with the words that name it. */
public final class BoundsTermsTest {
    private static final int NONE = TextMachines.NONE, BAD = TextMachines.BAD, FULL = TextMachines.FULL,
        LARGE = TextMachines.LARGE, ENDLESS = TextMachines.ENDLESS;

    private BoundsTermsTest() {
    }

    public static void main(String[] args) {
        Check.boundary(0, "LETTERS are 0 .. k - 1.", BoundsTermsTest::letters);
        Check.boundary(0, "An object is used for at most 512 calls after it has been made", BoundsTermsTest::calls);
        Check.boundary(0, "A TEXT is a row of LETTERS, also without any.", BoundsTermsTest::textWithoutLetters);
        Check.boundary(0, "THE ORDER of TEXTS: shorter ones first, of the same length by the first LETTER that differs.",
            BoundsTermsTest::order);
        Check.boundary(0, "no other one that has the same TEXTS IN it has fewer STATES", BoundsTermsTest::fewestStates);
        Check.boundary(0, "its STATES are numbered as they are come to at first", BoundsTermsTest::firstAndLastState);
        Check.boundary(0, "MACHINES are numbered 0, 1, .. as they come, 60 at most", BoundsTermsTest::sixtyMachines);
        Check.boundary(0, "each of 40 STATES at most", BoundsTermsTest::fortyStates);
        Check.boundary(0, "One that would have the same TEXTS as one that is there is that one: its number, and nothing comes.",
            BoundsTermsTest::sameTexts);
        Check.boundary(0, "COLLECTED is a TEXT of up to 100 LETTERS (at first without any).", BoundsTermsTest::collected);
        Check.boundary(0, "Calls that take it leave it there.", BoundsTermsTest::collectedStays);
        Check.boundary(0, "the first one, and all to which LETTERS lead from it, each once", BoundsTermsTest::onePlace);
        Check.boundary(0, "CAME is how many PLACES the latest act that was not BAD had", BoundsTermsTest::cameAfterBad);
        Check.boundary(0, "(0 of acts by which none come)", BoundsTermsTest::cameWithoutPlaces);
        Check.boundary(0, "More than 200 PLACES: LARGE (CAME is 201 then)", BoundsTermsTest::manyPlaces);
        Check.boundary(0, "more than 40 STATES: LARGE", BoundsTermsTest::manyStates);
        Check.boundary(0, "a 61st MACHINE: FULL", BoundsTermsTest::manyMachines);
        Check.boundary(0, "(in this order)", BoundsTermsTest::orderOfRefusals);
        Check.boundary(0, "NEXT of a set of STATES: the set of the NEXT ones of all in it.", BoundsTermsTest::setOfNone);
        Check.boundary(0, "A set is an END, if one in it is, where nothing else is told.", BoundsTermsTest::setAsEnd);
        Check.boundary(0, "BAD (a number is none, or out of its bounds) first", BoundsTermsTest::badFirst);
        Check.boundary(0, "then what a call names, in the order named", BoundsTermsTest::thenInOrder);
        Check.boundary(0, "What is refused changes nothing but CAME as told.", BoundsTermsTest::refusedChangesNothing);
        Check.covered(0, 0);
        Check.finish();
    }

    private static void letters() {
        for (int k = 2; k <= 4; k++) {
            TextMachines x = new TextMachines(k);
            int[] none = {MIN_VALUE, -1, k, k + 1, MAX_VALUE};
            x.make(1);
            for (int l = 0; l < k; l++) {
                Check.due("add(" + l + ")", x.add(l), l + 1);
                Check.due("next by " + l, x.next(0, 0, l), 0);
            }
            for (int l : none) {
                Check.due("add(" + l + ") of " + k, x.add(l), BAD);
                Check.due("next by " + l + " of " + k, x.next(0, 0, l), BAD);
                Check.due("become from " + l + " of " + k, x.become(0, l, 0), BAD);
                Check.due("become to " + l + " of " + k, x.become(0, 0, l), BAD);
                Check.due("drop " + l + " of " + k, x.drop(0, l), BAD);
            }
            Check.due("texts of one letter", x.count(0, 1), k);
        }
    }

    /** The 512th call is as good as the first one, with 60 machines and 100 letters. */
    private static void calls() {
        TextMachines x = Given.full(2);
        int callsOfFull = 165;
        for (int i = callsOfFull; i < 509; i++) {
            Check.due("add", x.add(1), FULL);
        }
        Check.due("510th: of(0)", x.of(0), 60);
        Check.due("511th: many", x.many(1), 2);
        Check.due("512th: of(2)", x.of(2), 6);
    }

    private static void textWithoutLetters() {
        TextMachines x = new TextMachines(3);
        Check.due("make(0) of no letters", x.make(0), 0);
        Check.due("states", x.states(0), 2);
        Check.due("end(0, 0)", x.end(0, 0), 1);
        Check.due("end(0, 1)", x.end(0, 1), 0);
        Check.due("has", x.has(0), 1);
        Check.due("count of no letters", x.count(0, 0), 1);
        Check.due("count of one", x.count(0, 1), 0);
        Check.due("longest", x.longest(0), 0);
        Check.due("pick(0, 0)", x.pick(0, 0), 0);
        Check.due("told(0)", x.told(0), NONE);
        Check.due("pick(0, 1)", x.pick(0, 1), NONE);
        Check.due("make(2)", x.make(2), 1);
        Check.due("differ", x.differ(0, 1), 0);
        Check.due("not none", x.within(0, 1), 0);
        Check.due("turned", x.turn(0), 0);
        Check.due("joined", x.join(0, 0), 0);
        Check.due("repeated", x.many(0), 0);
    }

    private static void order() {
        TextMachines x = new TextMachines(3);
        int all = x.make(1);
        int[] at = {0, 1, 3, 4, 6, 7, 12, 13, 39, 40};
        String[] due = {"", "0", "2", "00", "02", "10", "22", "000", "222", "0000"};
        for (int i = 0; i < at.length; i++) {
            Check.due("pick " + at[i], x.pick(all, at[i]), due[i].length());
            Check.due("told", Given.toldText(x), due[i]);
        }
        int a = Given.some(x, "2", "100", "011", "012", "22", "0000");
        String[] some = {"2", "22", "011", "012", "100", "0000"};
        for (int i = 0; i < some.length; i++) {
            x.pick(a, i);
            Check.due("told of some", Given.toldText(x), some[i]);
        }
        Check.due("the shorter one tells apart", x.differ(Given.one(x, "2"), Given.one(x, "00")), 1);
        Check.due("told", Given.toldText(x), "2");
        Check.due("the lower one tells apart", x.differ(Given.one(x, "12"), Given.one(x, "20")), 2);
        Check.due("told", Given.toldText(x), "12");
    }

    private static void fewestStates() {
        TextMachines x = new TextMachines(2);
        int a = Given.one(x, "0110");
        Check.due("a or all others", x.states(x.pair(1, a, x.not(a))), 1);
        Check.due("a and all others", x.states(x.pair(0, a, x.not(a))), 1);
        Check.due("all of the beginnings", x.states(x.join(x.make(1), x.make(1))), 1);
        Check.due("a joined to none", x.states(x.join(a, x.make(2))), 1);
        Check.due("a cut beyond its end", x.states(x.cut(a, 5)), 1);
        Check.due("all letters in turn", x.states(x.many(Given.rows(x, 1))), 1);
        Check.due("two of 4 letters that end alike", x.states(Given.some(x, "0110", "1110")), 6);
    }

    private static void firstAndLastState() {
        TextMachines x = new TextMachines(2);
        int a = Given.one(x, "1".repeat(38));
        Check.due("by 0: the one without a way to an end", x.next(a, 0, 0), 1);
        Check.due("it stays by 0", x.next(a, 1, 0), 1);
        Check.due("it stays by 1", x.next(a, 1, 1), 1);
        Check.due("by 1: the next one", x.next(a, 0, 1), 2);
        Check.due("from 38 to the last one", x.next(a, 38, 1), 39);
        Check.due("the last one is the end", x.end(a, 39), 1);
        Check.due("no way on from it", x.next(a, 39, 1), 1);
        int b = Given.one(x, "0".repeat(38));
        Check.due("by 0: the next one", x.next(b, 0, 0), 1);
        Check.due("by 1: the one without a way", x.next(b, 0, 1), 2);
        Check.due("from 1 by 0", x.next(b, 1, 0), 3);
        Check.due("the last one", x.next(b, 38, 0), 39);
    }

    private static void sixtyMachines() {
        TextMachines x = new TextMachines(2);
        for (int i = 0; i < 60; i++) {
            Check.due("machine " + i, x.numerals(i, i), i);
        }
        Check.due("of(0)", x.of(0), 60);
        Check.due("states(59)", x.states(59) > 0 ? 1 : 0, 1);
        Check.due("states(60)", x.states(60), BAD);
        Check.due("a 61st", x.numerals(60, 60), FULL);
        Check.due("states(60) still", x.states(60), BAD);
        Check.due("of(0) still", x.of(0), 60);
        Check.due("clear", x.clear(), 60);
        Check.due("the first one again", x.numerals(60, 60), 0);
    }

    private static void fortyStates() {
        TextMachines x = new TextMachines(2);
        int a = Given.one(x, "01".repeat(19));
        Check.due("38 letters", x.states(a), 40);
        x.add(0);
        Check.due("39 letters", x.make(0), LARGE);
        Check.due("states of its others", x.states(x.not(a)), 40);
        Check.due("of(0)", x.of(0), 2);
    }

    private static void sameTexts() {
        TextMachines x = new TextMachines(2);
        int all = x.make(1);
        int none = x.make(2);
        int zeros = x.many(Given.one(x, "0"));
        int zero = x.make(0);
        Check.due("of(0)", x.of(0), 4);
        for (int round = 0; round < 2; round++) {
            Check.due("make(0)", x.make(0), zero);
            Check.due("make(1)", x.make(1), all);
            Check.due("make(2)", x.make(2), none);
            Check.due("pair", x.pair(1, zero, zeros), zeros);
            Check.due("not", x.not(all), none);
            Check.due("join", x.join(zeros, zeros), zeros);
            Check.due("many", x.many(zero), zeros);
            Check.due("turn", x.turn(zeros), zeros);
            Check.due("become", x.become(zeros, 1, 0), zeros);
            Check.due("drop", x.drop(zeros, 1), zeros);
            Check.due("cut", x.cut(zeros, 7), zeros);
            Check.due("trim", x.trim(zeros, 7), zeros);
            Check.due("part 0", x.part(zeros, 0), zeros);
            Check.due("part 1", x.part(zeros, 1), zeros);
            Check.due("part 2", x.part(zeros, 2), zeros);
            Check.due("widen", x.widen(zeros, 0), zeros);
            Check.due("when", x.when(3, zero, true), zero);
            Check.due("numerals", x.numerals(0, 0), zero);
            Check.due("nothing came", x.of(0), round == 0 ? 4 : 60);
            Given.fillShelf(x);
        }
    }

    private static void collected() {
        TextMachines x = new TextMachines(2);
        Check.due("at first", x.of(1), 0);
        int empty = x.make(0);
        Check.due("at first, as a text", x.has(empty), 1);
        for (int i = 1; i <= 100; i++) {
            Check.due("add", x.add(1), i);
        }
        Check.due("a 101st", x.add(1), FULL);
        Check.due("of(1)", x.of(1), 100);
        int ones = x.many(Given.rows(x, 1));
        Check.due("wiped by then", x.of(1), 1);
        Check.due("all texts", x.has(ones), 1);
    }

    private static void collectedStays() {
        TextMachines x = new TextMachines(2);
        int all = x.make(1);
        Given.collect(x, "0110");
        int a = x.make(0);
        Check.due("after make(0)", x.has(a), 1);
        for (int op = 0; op <= 3; op++) {
            x.when(op, all, true);
            Check.due("after when", x.has(a), 1);
            x.when(op, all, false);
            Check.due("after when not", x.has(a), 1);
        }
        Check.due("after has", x.has(a), 1);
        x.when(4, all, true);
        x.when(0, -1, true);
        x.make(3);
        Check.due("after BAD", x.has(a), 1);
        Check.due("of(1)", x.of(1), 4);
        for (int i = 4; i < 100; i++) {
            x.add(0);
        }
        int begins = x.join(a, x.many(Given.one(x, "0")));
        Given.collect(x, "0110" + "0".repeat(96));
        Check.due("make(0) of 100 letters", x.make(0), LARGE);
        Check.due("when of 100 letters", x.when(1, all, true), LARGE);
        Check.due("of(1) after LARGE", x.of(1), 100);
        Check.due("its letters after LARGE", x.has(begins), 1);
    }

    private static void onePlace() {
        TextMachines x = new TextMachines(4);
        int all = x.make(1);
        int none = x.make(2);
        x.pair(0, all, none);
        Check.due("CAME of pair", x.of(2), 1);
        x.join(none, none);
        Check.due("CAME of join", x.of(2), 1);
        x.turn(none);
        Check.due("CAME of turn", x.of(2), 1);
        x.become(all, 2, 2);
        Check.due("CAME of become", x.of(2), 1);
        x.cut(all, 100);
        Check.due("CAME of cut", x.of(2), 1);
        x.part(all, 1);
        Check.due("CAME of part 1", x.of(2), 1);
        x.part(none, 2);
        Check.due("CAME of part 2", x.of(2), 1);
        x.widen(none, 0);
        Check.due("CAME of widen", x.of(2), 1);
        x.when(2, all, true);
        Check.due("CAME of when", x.of(2), 1);
    }

    private static void cameAfterBad() {
        TextMachines x = Given.busy(2);
        Check.due("CAME", x.of(2), 6);
        int[] bad = {x.make(3), x.pair(4, 0, 0), x.not(3), x.join(0, 3), x.many(3), x.turn(-1), x.become(0, 0, 2),
            x.drop(0, 2), x.cut(0, 101), x.trim(0, 101), x.part(0, 3), x.widen(0, 41), x.when(4, 0, true), x.numerals(1, 0)};
        for (int answer : bad) {
            Check.due("act", answer, BAD);
        }
        Check.due("CAME after acts that were BAD", x.of(2), 6);
        x.add(0);
        x.wipe();
        x.states(0);
        x.next(0, 0, 0);
        x.end(0, 0);
        x.has(0);
        x.within(0, 1);
        x.differ(0, 1);
        x.count(0, 100);
        x.pick(0, 5);
        x.told(0);
        x.longest(0);
        x.of(0);
        Check.due("CAME after calls that are no acts", x.of(2), 6);
        x.clear();
        Check.due("CAME after clear", x.of(2), 0);
    }

    private static void cameWithoutPlaces() {
        Limits.Act[] acts = {x -> x.make(0), x -> x.make(1), x -> x.make(2), x -> x.not(1), x -> x.trim(1, 1),
            x -> x.part(1, 0), x -> x.numerals(0, 9)};
        for (int i = 0; i < acts.length; i++) {
            TextMachines x = Given.busy(2);
            Check.due("CAME before act " + i, x.of(2), 6);
            Check.holds("act " + i + " is not refused", acts[i].on(x) >= 0);
            Check.due("CAME of act " + i, x.of(2), 0);
        }
    }

    /** 40 and 25 states in a ring each: their pairs are 200. One state ahead of a ring: 201. */
    private static void manyPlaces() {
        Limits.fits(2, 1, 200, x -> x.pair(0, ring40(x), x.cut(Given.ring(x, 25), 24)));
        Limits.large(2, 201, x -> x.pair(0, x.cut(ring40(x), 39), x.pair(2, Given.ring(x, 25), Given.one(x, ""))));
        Limits.large(2, 201, x -> x.pair(0, ring40(x), x.pair(0, Given.ring(x, 3), Given.ring(x, 13))));
    }

    private static int ring40(TextMachines x) {
        return x.pair(0, Given.ring(x, 5), Given.ring(x, 8));
    }

    private static void manyStates() {
        Limits.fits(2, 40, 40, BoundsTermsTest::ring40);
        Limits.large(2, 41, x -> x.pair(2, ring40(x), Given.one(x, "")));
        Limits.large(2, 200, x -> x.pair(0, ring40(x), Given.ring(x, 25)));
    }

    private static void manyMachines() {
        Limits.full(2, x -> Given.one(x, "01"), (x, a) -> x.many(a));
        Limits.full(2, x -> Given.one(x, "01"), (x, a) -> x.not(a));
    }

    private static void orderOfRefusals() {
        TextMachines x = new TextMachines(2);
        int ring40 = ring40(x);
        int ring25 = Given.ring(x, 25);
        int empty = Given.one(x, "");
        int ring40Late = x.cut(ring40, 39);
        int ring25Late = x.pair(2, ring25, empty);
        int none = x.make(2);
        Given.fillShelf(x);
        Check.due("201 places, a machine that is there", x.pair(0, ring40Late, ring25Late), LARGE);
        Check.due("CAME", x.of(2), 201);
        Check.due("201 places, more than 40 states, a 61st", x.pair(1, ring40Late, ring25Late), LARGE);
        Check.due("CAME", x.of(2), 201);
        Check.due("200 places, more than 40 states, a 61st", x.pair(1, ring40, ring25), LARGE);
        Check.due("CAME", x.of(2), 200);
        Check.due("41 states, a 61st", x.pair(2, ring40, empty), LARGE);
        Check.due("CAME", x.of(2), 41);
        Check.due("40 states, a 61st", x.not(ring40), FULL);
        Check.due("CAME", x.of(2), 0);
        Check.due("27 places and as many states, a 61st", x.pair(3, ring25Late, Given.rows(x, 1)), FULL);
        Check.due("CAME", x.of(2), 27);
        Check.due("one that is there", x.pair(0, ring25, none), none);
        Check.due("of(0)", x.of(0), 60);
    }

    private static void setOfNone() {
        TextMachines x = new TextMachines(2);
        int none = x.make(2);
        Check.due("turn of none: the set of no ends", x.turn(none), none);
        Check.due("CAME: it leads to itself alone", x.of(2), 1);
        int one = Given.one(x, "1");
        x.become(one, 0, 1);
        // {0}; by 0 none; by 1 {1, 2}; from there by 1 {2}: four, as none leads to none
        Check.due("CAME with the set of none", x.of(2), 4);
    }

    private static void setAsEnd() {
        TextMachines x = new TextMachines(2);
        int zeros = x.many(Given.one(x, "0"));
        int one = Given.one(x, "1");
        // sets of none are no ends: texts with a 1 in them are out
        int became = x.become(x.pair(1, zeros, one), 1, 0);
        Check.due("1 became 0", became, zeros);
        // {0, 1, 2} is an end by one of the three
        Check.due("the end of 1, or nothing", x.part(one, 1), x.pair(1, one, Given.one(x, "")));
        Check.due("none is an end: no texts", x.turn(x.make(2)), x.make(2));
    }

    private static void badFirst() {
        int[] none = {MIN_VALUE, -1, 60, MAX_VALUE};
        for (int number : none) {
            for (boolean full : new boolean[] {false, true}) {
                Limits.isBad(2, full, number, (x, a) -> x.add(a));
                Limits.isBad(2, full, number, (x, a) -> x.make(a));
                Limits.isBad(2, full, number, (x, a) -> x.pair(a, a, a));
                Limits.isBad(2, full, number, (x, a) -> x.become(a, a, a));
                Limits.isBad(2, full, number, (x, a) -> x.when(a, a, false));
                Limits.isBad(2, full, number, (x, a) -> x.next(a, a, a));
                Limits.isBad(2, full, number, (x, a) -> x.differ(a, a));
                Limits.isBad(2, full, number, (x, a) -> x.of(a));
            }
        }
        TextMachines x = Given.full(2);
        Check.due("add: FULL, where it is not BAD", x.add(0), FULL);
        Check.due("make(0): LARGE, where it is not BAD", x.make(0), LARGE);
        Check.due("when: LARGE, where it is not BAD", x.when(0, 0, true), LARGE);
        Check.due("not: FULL, where it is not BAD", x.not(1), FULL);
    }

    private static void thenInOrder() {
        TextMachines x = Given.full(2);
        Check.due("make(0): LARGE ahead of FULL", x.make(0), LARGE);
        Check.due("when: LARGE ahead of FULL", x.when(1, 0, false), LARGE);
        Check.due("numerals: LARGE ahead of FULL", x.numerals(0, 1000000000), LARGE);
        Check.due("numerals: FULL", x.numerals(0, 999999), FULL);
        TextMachines y = Given.busy(2);
        int none = y.make(2);
        Check.due("longest: NONE ahead of ENDLESS", y.longest(none), NONE);
        Check.due("longest: ENDLESS", y.longest(0), ENDLESS);
        Check.due("pick: BAD ahead of NONE", y.pick(none, -1), BAD);
        Check.due("pick: NONE", y.pick(none, 0), NONE);
    }

    private static void refusedChangesNothing() {
        TextMachines x = Given.full(2);
        String before = Given.state(x);
        Check.due("LARGE", x.make(0), LARGE);
        Check.due("CAME of LARGE without places", x.of(2), 0);
        Check.due("FULL", x.join(1, 1), FULL);
        Check.due("CAME of FULL", x.of(2), 7);
        Check.due("BAD", x.join(1, 60), BAD);
        Check.due("CAME after BAD", x.of(2), 7);
        Check.due("FULL of add", x.add(1), FULL);
        Check.due("NONE of differ", x.differ(1, 1), NONE);
        Check.due("NONE of pick", x.pick(1, 1), NONE);
        Check.due("NONE of told", x.told(2), NONE);
        Check.due("CAME after what is no act", x.of(2), 7);
        Check.due("what there is", Given.state(x), before);
    }
}
