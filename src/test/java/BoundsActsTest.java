/**
 * The boundary cases of the acts, promises 5 to 18, each with the words that name it. Machines that
 * come close to a limit are often made of numerals: these have many states for few calls.
 */
public final class BoundsActsTest {
    private static final int NONE = TextMachines.NONE, BAD = TextMachines.BAD, LARGE = TextMachines.LARGE,
        ENDLESS = TextMachines.ENDLESS;
    private static final String BAD_WORDS = "BAD (a number is none, or out of its bounds)";
    private static final String STATES_WORDS = "LARGE: more than 40 STATES";
    private static final String PLACES_WORDS = "LARGE: More than 200 PLACES (CAME is 201 then)";
    private static final String FULL_WORDS = "FULL: a 61st MACHINE";

    private BoundsActsTest() {
    }

    public static void main(String[] args) {
        makeCases();
        pairCases();
        notCases();
        joinCases();
        manyCases();
        turnCases();
        becomeCases();
        dropCases();
        cutCases();
        trimCases();
        partCases();
        widenCases();
        whenCases();
        numeralsCases();
        Check.covered(5, 18);
        Check.finish();
    }

    /** The machine of COLLECTED 01 alone in an object with three machines, and CAME 6. */
    private static final int ZERO_ONE = 1;

    /** The act leaves CAME 0, where it was not 0. */
    private static void noPlaces(Limits.Act act) {
        TextMachines x = Given.busy(2);
        Check.holds("CAME before", x.of(2) > 0);
        Check.holds("it is no refusal", act.on(x) >= 0);
        Check.due("CAME", x.of(2), 0);
    }

    private static int manyNumerals(TextMachines x, int low, int high) {
        return x.many(x.numerals(low, high));
    }

    /** 40 states, and the lengths that divide by 40. */
    private static int ring40(TextMachines x) {
        return x.pair(0, Given.ring(x, 5), Given.ring(x, 8));
    }

    // ---- 5 make

    private static void makeCases() {
        Check.boundary(5, "what = 0 COLLECTED alone, 1 all TEXTS, 2 none", BoundsActsTest::makeLeast);
        Check.boundary(5, "(No PLACES.)", BoundsActsTest::makeNoPlaces);
        Check.boundary(5, BAD_WORDS, () -> Limits.bounds(2, 0, 2, (x, what) -> x.make(what)));
        Check.boundary(5, STATES_WORDS, BoundsActsTest::makeLarge);
        Check.boundary(5, FULL_WORDS, BoundsActsTest::makeFull);
    }

    private static void makeLeast() {
        TextMachines x = new TextMachines(2);
        Check.due("COLLECTED without letters", x.make(0), 0);
        Check.due("its states", x.states(0), 2);
        Check.due("its longest", x.longest(0), 0);
        Check.due("all", x.make(1), 1);
        Check.due("its states", x.states(1), 1);
        Check.due("its longest", x.longest(1), ENDLESS);
        Check.due("none", x.make(2), 2);
        Check.due("its states", x.states(2), 1);
        Check.due("its longest", x.longest(2), NONE);
    }

    private static void makeNoPlaces() {
        for (int what = 0; what <= 2; what++) {
            int which = what;
            noPlaces(x -> x.make(which));
        }
    }

    private static void makeLarge() {
        Limits.fits(2, 40, 0, x -> Given.one(x, "1".repeat(38)));
        Limits.fits(4, 40, 0, x -> Given.one(x, "3".repeat(38)));
        Limits.large(2, 0, x -> Given.one(x, "1".repeat(39)));
        Limits.large(4, 0, x -> Given.one(x, "3".repeat(40)));
        Limits.large(2, 0, x -> Given.one(x, "01".repeat(50)));
        TextMachines x = Given.busy(2);
        Given.collect(x, "0".repeat(39));
        Check.due("LARGE", x.make(0), LARGE);
        Check.due("CAME is that of an act without places", x.of(2), 0);
        Check.due("all is not LARGE", x.make(1), 0);
        Check.due("none is not LARGE", x.make(2), 3);
    }

    private static void makeFull() {
        Limits.full(2, x -> x.make(1), (x, a) -> x.make(0));
        Limits.full(2, x -> x.make(2), (x, a) -> x.make(1));
        Limits.full(2, x -> x.make(1), (x, a) -> x.make(2));
    }

    // ---- 6 pair

    private static void pairCases() {
        Check.boundary(6, "how = 0 both, 1 one of both at least, 2 a and not b, 3 just one of both",
            BoundsActsTest::pairWithNoneAndAll);
        Check.boundary(6, "first 0 and 0", BoundsActsTest::pairFirst);
        Check.boundary(6, BAD_WORDS, BoundsActsTest::pairBad);
        Check.boundary(6, STATES_WORDS, BoundsActsTest::pairStates);
        Check.boundary(6, PLACES_WORDS, BoundsActsTest::pairPlaces);
        Check.boundary(6, FULL_WORDS, BoundsActsTest::pairFull);
    }

    private static void pairWithNoneAndAll() {
        TextMachines x = new TextMachines(2);
        int all = x.make(1);
        int none = x.make(2);
        int a = Given.some(x, "", "01");
        int rest = x.not(a);
        int[][] due = {{none, a, a, none}, {a, all, a, all}, {a, none, none, a}, {a, rest, none, all}};
        for (int how = 0; how <= 3; how++) {
            Check.due("with none, how " + how, x.pair(how, a, none), due[how][0]);
            Check.due("with all, how " + how, x.pair(how, a, all), due[how][1]);
            Check.due("with itself, how " + how, x.pair(how, a, a), due[how][2]);
            Check.due("with all others, how " + how, x.pair(how, a, rest), due[how][3]);
        }
        Check.due("none and not a", x.pair(2, none, a), none);
        Check.due("all and not a", x.pair(2, all, a), rest);
    }

    private static void pairFirst() {
        TextMachines x = new TextMachines(2);
        int all = x.make(1);
        int empty = Given.one(x, "");
        for (int how = 0; how <= 3; how++) {
            x.pair(how, all, all);
            Check.due("CAME of one state and one", x.of(2), 1);
            x.pair(how, empty, empty);
            Check.due("CAME of two states and the same two", x.of(2), 2);
        }
        Check.due("the text without letters is in", x.end(x.pair(0, all, empty), 0), 1);
        Check.due("and is not", x.end(x.pair(2, all, empty), 0), 0);
    }

    private static void pairBad() {
        Limits.bounds(2, 0, 3, (x, how) -> x.pair(how, ZERO_ONE, ZERO_ONE));
        Limits.machineBounds((x, a) -> x.pair(0, a, 0));
        Limits.machineBounds((x, b) -> x.pair(0, 0, b));
    }

    private static void pairStates() {
        Limits.fits(2, 40, 40, x -> x.pair(2, manyNumerals(x, 8, 60), x.numerals(8, 60)));
        Limits.large(2, 41, x -> x.pair(2, manyNumerals(x, 12, 51), x.numerals(12, 51)));
    }

    private static void pairPlaces() {
        Limits.fits(2, 1, 200, x -> x.pair(0, ring40(x), x.cut(Given.ring(x, 25), 24)));
        Limits.large(2, 201, x -> x.pair(0, x.cut(ring40(x), 39), x.pair(2, Given.ring(x, 25), Given.one(x, ""))));
    }

    private static void pairFull() {
        for (int how = 0; how <= 3; how++) {
            int which = how;
            Limits.full(2, BoundsActsTest::twoToPair, (x, a) -> x.pair(which, a, 0));
        }
    }

    /** The one is 0, the other is answered: they have texts in common and each some of its own. */
    private static int twoToPair(TextMachines x) {
        x.numerals(2, 5);
        return Given.some(x, "0", "11", "00", "101");
    }

    // ---- 7 not

    /** It names no LARGE: what has 40 states has 40 still. */
    private static void notCases() {
        Check.boundary(7, "All other TEXTS.", BoundsActsTest::notOfNoneAndAll);
        Check.boundary(7, "(No PLACES.)", () -> noPlaces(x -> x.not(ZERO_ONE)));
        Check.boundary(7, BAD_WORDS, () -> Limits.machineBounds((x, a) -> x.not(a)));
        Check.boundary(7, FULL_WORDS, () -> Limits.full(2, x -> Given.one(x, "01"), (x, a) -> x.not(a)));
        Check.boundary(7, "BAD; FULL.", () -> Limits.fits(2, 40, 0, x -> x.not(ring40(x))));
    }

    private static void notOfNoneAndAll() {
        TextMachines x = new TextMachines(2);
        int all = x.make(1);
        int none = x.make(2);
        Check.due("not of all", x.not(all), none);
        Check.due("not of none", x.not(none), all);
        int empty = Given.one(x, "");
        int letters = x.not(empty);
        Check.due("no letters are out", x.count(letters, 0), 0);
        Check.due("one letter is in", x.count(letters, 1), 2);
        Check.due("100 letters are in", x.count(letters, 100), 1000000000000000000L);
        Check.due("back again", x.not(letters), empty);
    }

    // ---- 8 join

    private static void joinCases() {
        Check.boundary(8, "TEXTS of a, each with one of b behind it.", BoundsActsTest::joinWithNothing);
        Check.boundary(8, "at each, also the first one, where that of a is an END, 0 is in the set, too",
            BoundsActsTest::joinFirst);
        Check.boundary(8, "It is an END, if the set is.", BoundsActsTest::joinEnds);
        Check.boundary(8, BAD_WORDS, BoundsActsTest::joinBad);
        Check.boundary(8, STATES_WORDS, BoundsActsTest::joinStates);
        Check.boundary(8, PLACES_WORDS, BoundsActsTest::joinPlaces);
        Check.boundary(8, FULL_WORDS, () -> Limits.full(2, x -> Given.one(x, "01"), (x, a) -> x.join(a, a)));
    }

    private static void joinWithNothing() {
        TextMachines x = new TextMachines(2);
        int none = x.make(2);
        int empty = Given.one(x, "");
        int a = Given.some(x, "", "01", "1");
        Check.due("none behind", x.join(a, none), none);
        Check.due("none ahead", x.join(none, a), none);
        Check.due("none with none", x.join(none, none), none);
        Check.due("no letters behind", x.join(a, empty), a);
        Check.due("no letters ahead", x.join(empty, a), a);
        Check.due("no letters with none", x.join(empty, none), none);
        Check.due("no letters with no letters", x.join(empty, empty), empty);
    }

    private static void joinFirst() {
        TextMachines x = new TextMachines(2);
        int none = x.make(2);
        int empty = Given.one(x, "");
        int one = Given.one(x, "1");
        // 0 with {0} first, then 1 with {1}: no place is 0 with none
        x.join(empty, empty);
        Check.due("CAME, where the first one is an end", x.of(2), 2);
        // 0 with none, and no place beside it
        x.join(none, empty);
        Check.due("CAME, where no state is an end", x.of(2), 1);
        // 0 with {0} by each letter again, with none of b's states left out: {0}, {0, 1}, {0, 2}, {0, 1, 2}
        x.join(x.make(1), one);
        Check.due("CAME, where each state is an end", x.of(2), 4);
        // of 1: 0, by 0 dead 1, by 1 end 2; 0 with none, 1 with none, 2 with {0}, 1 with {1}, 1 with {2}
        x.join(one, one);
        Check.due("CAME of two letters", x.of(2), 5);
    }

    private static void joinEnds() {
        TextMachines x = new TextMachines(2);
        int a = Given.some(x, "", "0");
        int b = Given.one(x, "1");
        int joined = x.join(a, b);
        Check.due("a text of a alone is out", x.count(joined, 0), 0);
        Check.due("texts", joined, Given.some(x, "1", "01"));
        int withNone = x.join(a, Given.some(x, "", "1"));
        Check.due("a text of a alone is in, if b has that without letters", withNone, Given.some(x, "", "0", "1", "01"));
    }

    private static void joinBad() {
        Limits.machineBounds((x, a) -> x.join(a, 0));
        Limits.machineBounds((x, b) -> x.join(0, b));
    }

    private static void joinStates() {
        // along 38 letters and aside; behind the first of both the set of no states is left
        Limits.fits(2, 40, 41, x -> x.join(Given.one(x, "0".repeat(19)), Given.one(x, "0".repeat(19))));
        Limits.large(2, 42, x -> x.join(Given.one(x, "0".repeat(20)), Given.one(x, "0".repeat(19))));
        Limits.fits(2, 40, 52, x -> x.join(x.make(1), x.numerals(19, 51)));
        Limits.large(2, 72, x -> x.join(x.make(1), x.numerals(19, 65)));
    }

    private static void joinPlaces() {
        Limits.fits(2, 20, 200, x -> x.join(x.numerals(6, 50), manyNumerals(x, 6, 50)));
        Limits.large(2, 201, x -> x.join(x.make(1), manyNumerals(x, 8, 47)));
    }

    // ---- 9 many

    private static void manyCases() {
        Check.boundary(9, "None, one or more TEXTS of a behind one another.", BoundsActsTest::manyOfNothing);
        Check.boundary(9, "first THE BEGINNING, an END, from which LETTERS lead as from the set of 0 alone",
            BoundsActsTest::manyBeginning);
        Check.boundary(9, "the NEXT ones, and 0, too, if one of these is an END", BoundsActsTest::manyAgain);
        Check.boundary(9, BAD_WORDS, () -> Limits.machineBounds((x, a) -> x.many(a)));
        Check.boundary(9, STATES_WORDS, BoundsActsTest::manyStates);
        Check.boundary(9, PLACES_WORDS, BoundsActsTest::manyPlaces);
        Check.boundary(9, FULL_WORDS, () -> Limits.full(2, x -> Given.one(x, "01"), (x, a) -> x.many(a)));
    }

    private static void manyOfNothing() {
        TextMachines x = new TextMachines(2);
        int empty = Given.one(x, "");
        int all = x.make(1);
        Check.due("of none", x.many(x.make(2)), empty);
        Check.due("of the text without letters", x.many(empty), empty);
        Check.due("of all", x.many(all), all);
        int a = Given.one(x, "10");
        int rows = x.many(a);
        Check.due("none of them", x.count(rows, 0), 1);
        Check.due("one", x.count(rows, 2), 1);
        Check.due("not one and a half", x.count(rows, 3), 0);
        Check.due("fifty", x.count(rows, 100), 1);
        Check.due("again", x.many(rows), rows);
    }

    private static void manyBeginning() {
        TextMachines x = new TextMachines(2);
        int none = x.make(2);
        x.many(none);
        Check.due("CAME of none: THE BEGINNING and {0}", x.of(2), 2);
        x.many(x.make(1));
        Check.due("CAME of all: THE BEGINNING and {0}, though both are ends", x.of(2), 2);
        int many = x.many(Given.one(x, "1"));
        Check.due("CAME of 1: THE BEGINNING, {1}, {0, 2}, {0, 1, 2}", x.of(2), 4);
        Check.due("THE BEGINNING is an end, though 0 is none", x.end(many, 0), 1);
    }

    private static void manyAgain() {
        TextMachines x = new TextMachines(2);
        int a = Given.some(x, "0", "01");
        int rows = x.many(a);
        Given.collect(x, "00101001");
        Check.due("each text begins where one is over", x.has(rows), 1);
        Given.collect(x, "0011");
        Check.due("not elsewhere", x.has(rows), 0);
        Given.collect(x, "1");
        Check.due("nor ahead", x.has(rows), 0);
    }

    private static void manyStates() {
        // lengths that are sums of 3 and 20 to the letter 0: all from 38 on, but not 37
        Limits.fits(2, 40, 60, x -> x.many(Given.some(x, "0".repeat(3), "0".repeat(20))));
        Limits.fits(2, 40, 120, x -> manyNumerals(x, 13, 65));
        Limits.large(2, 91, x -> manyNumerals(x, 13, 56));
    }

    private static void manyPlaces() {
        Limits.fits(2, 40, 200, x -> x.many(x.cut(x.numerals(23, 77), 1)));
        Limits.large(2, 201, x -> x.many(x.cut(x.numerals(29, 71), 1)));
    }

    // ---- 10 turn

    private static void turnCases() {
        Check.boundary(10, "Each TEXT turned: its last LETTER first.", BoundsActsTest::turnShort);
        Check.boundary(10, "first that of all ENDS", BoundsActsTest::turnFirst);
        Check.boundary(10, "ENDS: those in which 0 is.", BoundsActsTest::turnEnds);
        Check.boundary(10, BAD_WORDS, () -> Limits.machineBounds((x, a) -> x.turn(a)));
        Check.boundary(10, STATES_WORDS, BoundsActsTest::turnStates);
        Check.boundary(10, PLACES_WORDS, BoundsActsTest::turnPlaces);
        Check.boundary(10, FULL_WORDS, () -> Limits.full(2, x -> Given.one(x, "01"), (x, a) -> x.turn(a)));
    }

    private static void turnShort() {
        TextMachines x = new TextMachines(2);
        int empty = Given.one(x, "");
        int one = Given.one(x, "1");
        int long38 = Given.one(x, "0".repeat(37) + "1");
        int turned = Given.one(x, "1" + "0".repeat(37));
        Check.due("no letters", x.turn(empty), empty);
        Check.due("one letter", x.turn(one), one);
        Check.due("38 letters", x.turn(long38), turned);
        Check.due("and back", x.turn(turned), long38);
        Check.due("none", x.turn(x.make(2)), x.make(2));
        Check.due("all", x.turn(x.make(1)), x.make(1));
    }

    private static void turnFirst() {
        TextMachines x = new TextMachines(2);
        x.turn(x.make(2));
        Check.due("CAME, where there are no ends: the set of none", x.of(2), 1);
        x.turn(x.make(1));
        Check.due("CAME, where all are ends", x.of(2), 1);
        x.turn(Given.one(x, ""));
        Check.due("CAME of the text without letters: {0} and none", x.of(2), 2);
    }

    private static void turnEnds() {
        TextMachines x = new TextMachines(2);
        int zeros = x.many(Given.one(x, "0"));
        int withOne = x.join(zeros, Given.one(x, "1"));
        int turned = x.turn(withOne);
        Check.due("the ends of a are no ends", x.end(turned, 0), 0);
        Check.due("but where 0 is", x.end(turned, x.next(turned, 0, 1)), 1);
        Check.due("1 and zeros", turned, x.join(Given.one(x, "1"), zeros));
    }

    private static void turnStates() {
        Limits.fits(2, 40, 40, x -> x.turn(manyNumerals(x, 12, 36)));
        Limits.large(2, 41, x -> x.turn(manyNumerals(x, 12, 34)));
    }

    /** What is turned has as many states as places: 200 are too many states, 201 too many places. */
    private static void turnPlaces() {
        Limits.large(2, 200, x -> x.turn(x.many(x.cut(x.numerals(41, 78), 1))));
        Limits.large(2, 201, x -> x.turn(x.many(x.cut(x.numerals(45, 81), 1))));
        Limits.large(2, 201, x -> x.turn(x.join(Given.rows(x, 8), x.join(Given.one(x, "0"), x.make(1)))));
    }

    // ---- 11 become

    private static void becomeCases() {
        Check.boundary(11, "In each TEXT LETTER x becomes y.", BoundsActsTest::becomeNothing);
        Check.boundary(11, "by x, if it is another one, none", BoundsActsTest::becomeItself);
        Check.boundary(11, BAD_WORDS, BoundsActsTest::becomeBad);
        Check.boundary(11, STATES_WORDS, BoundsActsTest::becomeStates);
        Check.boundary(11, PLACES_WORDS, BoundsActsTest::becomePlaces);
        Check.boundary(11, FULL_WORDS, () -> Limits.full(2, x -> Given.one(x, "01"), (x, a) -> x.become(a, 1, 0)));
    }

    private static void becomeNothing() {
        TextMachines x = new TextMachines(4);
        int none = x.make(2);
        int empty = Given.one(x, "");
        int a = Given.some(x, "03", "33");
        Check.due("none", x.become(none, 0, 3), none);
        Check.due("no letters", x.become(empty, 0, 3), empty);
        Check.due("no such letter", x.become(a, 1, 2), a);
        Check.due("the first one becomes the last one", x.become(a, 0, 3), Given.one(x, "33"));
        Check.due("the last one becomes the first one", x.become(a, 3, 0), Given.one(x, "00"));
        int became = x.become(x.make(1), 0, 3);
        Check.due("all: 3 of 4 letters are left", x.count(became, 2), 9);
    }

    private static void becomeItself() {
        TextMachines x = new TextMachines(2);
        int a = Given.one(x, "01");
        for (int letter = 0; letter < 2; letter++) {
            Check.due("it becomes itself", x.become(a, letter, letter), a);
            Check.due("CAME: no set of none", x.of(2), x.states(a));
        }
        int all = x.make(1);
        x.become(all, 0, 0);
        Check.due("CAME of all", x.of(2), 1);
        Check.due("another one", x.become(all, 0, 1), x.many(Given.one(x, "1")));
        x.become(all, 0, 1);
        Check.due("CAME of all: {0} and none", x.of(2), 2);
    }

    private static void becomeBad() {
        Limits.machineBounds((x, a) -> x.become(a, 0, 1));
        Limits.letterBounds((x, letter) -> x.become(ZERO_ONE, letter, 1));
        Limits.letterBounds((x, letter) -> x.become(ZERO_ONE, 1, letter));
        Limits.isBad(2, false, 2, (x, letter) -> x.become(ZERO_ONE, letter, letter));
    }

    private static void becomeStates() {
        Limits.fits(3, 40, 44, x -> x.become(manyNumerals(x, 53, 83), 2, 0));
        Limits.large(3, 52, x -> x.become(manyNumerals(x, 26, 66), 2, 0));
    }

    private static void becomePlaces() {
        Limits.fits(3, 9, 200, x -> x.become(manyNumerals(x, 18, 67), 1, 2));
        Limits.large(3, 201, x -> x.become(manyNumerals(x, 12, 43), 0, 1));
    }

    // ---- 12 drop

    private static void dropCases() {
        Check.boundary(12, "LETTERS x go out of each TEXT.", BoundsActsTest::dropNothing);
        Check.boundary(12, "each with all STATES to which x alone, again and again, leads from one in it",
            BoundsActsTest::dropAgain);
        Check.boundary(12, "first that of 0; by x none", BoundsActsTest::dropFirst);
        Check.boundary(12, BAD_WORDS, BoundsActsTest::dropBad);
        Check.boundary(12, STATES_WORDS, BoundsActsTest::dropStates);
        Check.boundary(12, PLACES_WORDS, BoundsActsTest::dropPlaces);
        Check.boundary(12, FULL_WORDS, () -> Limits.full(2, x -> Given.one(x, "01"), (x, a) -> x.drop(a, 1)));
    }

    private static void dropNothing() {
        TextMachines x = new TextMachines(3);
        int none = x.make(2);
        int empty = Given.one(x, "");
        int a = Given.some(x, "01", "10");
        Check.due("none", x.drop(none, 0), none);
        Check.due("no letters", x.drop(empty, 0), empty);
        Check.due("no such letter", x.drop(a, 2), a);
        Check.due("one of two", x.drop(a, 1), Given.one(x, "0"));
        Check.due("each of them", x.drop(Given.some(x, "000", "0"), 0), empty);
        Check.due("of all: two letters are left", x.count(x.drop(x.make(1), 2), 3), 8);
    }

    private static void dropAgain() {
        TextMachines x = new TextMachines(2);
        int empty = Given.one(x, "");
        int ones = Given.one(x, "1".repeat(38));
        Check.due("38 times", x.drop(ones, 1), empty);
        // all states along the ones at first, by 0 and by 1 the one aside, and none
        Check.due("CAME", x.of(2), 3);
        int between = Given.one(x, "1".repeat(12) + "0" + "1".repeat(12) + "0" + "1".repeat(12));
        Check.due("between others", x.drop(between, 1), Given.one(x, "00"));
    }

    private static void dropFirst() {
        TextMachines x = new TextMachines(2);
        int all = x.make(1);
        Check.due("of all", x.drop(all, 1), x.many(Given.one(x, "0")));
        x.drop(all, 1);
        Check.due("CAME: {0} and none", x.of(2), 2);
        x.drop(x.make(2), 1);
        Check.due("CAME of none: {0} and none", x.of(2), 2);
    }

    private static void dropBad() {
        Limits.machineBounds((x, a) -> x.drop(a, 0));
        Limits.letterBounds((x, letter) -> x.drop(ZERO_ONE, letter));
    }

    private static void dropStates() {
        Limits.fits(3, 40, 41, x -> x.drop(x.join(x.numerals(31, 79), Given.one(x, "00000000")), 1));
        Limits.large(3, 54, x -> x.drop(twice(x, twice(x, x.numerals(19, 30))), 1));
    }

    private static int twice(TextMachines x, int a) {
        return x.join(a, a);
    }

    /**
     * Lengths of 18 and, behind a 2, lengths of 11, and all behind two: without the 2 that is all.
     * The places: the first one, 198 pairs of lengths, and the set of none; with a step ahead 201.
     */
    private static void dropPlaces() {
        Limits.fits(3, 2, 200, x -> x.drop(withTwos(x, x.pair(2, Given.ring(x, 18), Given.one(x, ""))), 2));
        Limits.large(3, 201, x -> x.drop(withTwos(x, x.join(Given.rows(x, 19), Given.ring(x, 18))), 2));
    }

    private static int withTwos(TextMachines x, int alone) {
        int two = Given.one(x, "2");
        int behindOne = x.join(two, Given.ring(x, 11));
        int behindTwo = x.join(two, x.join(Given.one(x, "2"), x.make(1)));
        return x.pair(1, alone, x.pair(1, behindOne, behindTwo));
    }

    // ---- 13 cut

    private static void cutCases() {
        Check.boundary(13, "TEXTS of n LETTERS and more without their first n", BoundsActsTest::cutLengths);
        Check.boundary(13, "(0 .. 100)", BoundsActsTest::cutMost);
        Check.boundary(13, "first that of all to which n LETTERS lead from 0", BoundsActsTest::cutFirst);
        Check.boundary(13, BAD_WORDS, BoundsActsTest::cutBad);
        Check.boundary(13, STATES_WORDS, BoundsActsTest::cutStates);
        Check.boundary(13, PLACES_WORDS, BoundsActsTest::cutPlaces);
        Check.boundary(13, FULL_WORDS, () -> Limits.full(2, x -> Given.one(x, "01"), (x, a) -> x.cut(a, 1)));
    }

    private static void cutLengths() {
        TextMachines x = new TextMachines(2);
        int none = x.make(2);
        int empty = Given.one(x, "");
        int a = Given.some(x, "0", "011");
        Check.due("no letters", x.cut(a, 0), a);
        Check.due("one: the shorter text is just so long", x.cut(a, 1), Given.some(x, "", "11"));
        Check.due("two: the shorter text is too short", x.cut(a, 2), Given.one(x, "1"));
        Check.due("three: the longer text is just so long", x.cut(a, 3), empty);
        Check.due("four: both are too short", x.cut(a, 4), none);
        Check.due("of none", x.cut(none, 0), none);
        Check.due("of none, one", x.cut(none, 1), none);
        Check.due("of no letters", x.cut(empty, 0), empty);
        Check.due("of no letters, one", x.cut(empty, 1), none);
    }

    private static void cutMost() {
        TextMachines x = new TextMachines(2);
        int ring = Given.ring(x, 3);
        Check.due("0", x.cut(ring, 0), ring);
        Check.due("99", x.cut(ring, 99), ring);
        Check.due("100: as one", x.cut(ring, 100), x.cut(ring, 1));
        Check.due("100 of all", x.cut(x.make(1), 100), x.make(1));
        Check.due("100 of 38", x.cut(Given.one(x, "0".repeat(38)), 100), x.make(2));
    }

    private static void cutFirst() {
        TextMachines x = new TextMachines(2);
        int a = Given.one(x, "0");
        x.cut(a, 0);
        Check.due("CAME of no letters: each state", x.of(2), 3);
        // the end and the one aside first; then that one alone
        x.cut(a, 1);
        Check.due("CAME of one: {1, 2} and {2}", x.of(2), 2);
        x.cut(a, 2);
        Check.due("CAME of two: {2}", x.of(2), 1);
        x.cut(a, 100);
        Check.due("CAME of 100: {2}", x.of(2), 1);
    }

    private static void cutBad() {
        Limits.bounds(2, 0, 100, (x, n) -> x.cut(ZERO_ONE, n));
        Limits.machineBounds((x, a) -> x.cut(a, 1));
    }

    private static void cutStates() {
        Limits.fits(2, 40, 138, x -> x.cut(manyNumerals(x, 20, 47), 4));
        Limits.large(2, 173, x -> x.cut(manyNumerals(x, 14, 64), 2));
    }

    private static void cutPlaces() {
        Limits.fits(2, 34, 200, x -> x.cut(manyNumerals(x, 11, 50), 2));
        Limits.large(2, 201, x -> x.cut(manyNumerals(x, 11, 39), 2));
    }

    // ---- 14 trim

    /** It names no LARGE: what has 40 states has no more then. */
    private static void trimCases() {
        Check.boundary(14, "TEXTS of n LETTERS and more without their last n", BoundsActsTest::trimLengths);
        Check.boundary(14, "(0 .. 100)", BoundsActsTest::trimMost);
        Check.boundary(14, "(No PLACES.)", BoundsActsTest::trimNoPlaces);
        Check.boundary(14, BAD_WORDS, BoundsActsTest::trimBad);
        Check.boundary(14, FULL_WORDS, () -> Limits.full(2, x -> Given.one(x, "01"), (x, a) -> x.trim(a, 1)));
        Check.boundary(14, "BAD; FULL.", () -> Limits.fits(2, 40, 0, x -> x.trim(ring40(x), 39)));
    }

    private static void trimLengths() {
        TextMachines x = new TextMachines(2);
        int none = x.make(2);
        int empty = Given.one(x, "");
        int a = Given.some(x, "0", "011");
        Check.due("no letters", x.trim(a, 0), a);
        Check.due("one: the shorter text is just so long", x.trim(a, 1), Given.some(x, "", "01"));
        Check.due("two: the shorter text is too short", x.trim(a, 2), Given.one(x, "0"));
        Check.due("three: the longer text is just so long", x.trim(a, 3), empty);
        Check.due("four: both are too short", x.trim(a, 4), none);
        Check.due("of none", x.trim(none, 0), none);
        Check.due("of none, one", x.trim(none, 1), none);
        Check.due("of no letters", x.trim(empty, 0), empty);
        Check.due("of no letters, one", x.trim(empty, 1), none);
    }

    private static void trimMost() {
        TextMachines x = new TextMachines(2);
        int ring = Given.ring(x, 3);
        Check.due("0", x.trim(ring, 0), ring);
        Check.due("99", x.trim(ring, 99), ring);
        Check.due("100: as one", x.trim(ring, 100), x.trim(ring, 1));
        Check.due("100 of all", x.trim(x.make(1), 100), x.make(1));
        Check.due("100 of 38", x.trim(Given.one(x, "0".repeat(38)), 100), x.make(2));
    }

    private static void trimNoPlaces() {
        noPlaces(x -> x.trim(ZERO_ONE, 0));
        noPlaces(x -> x.trim(ZERO_ONE, 100));
    }

    private static void trimBad() {
        Limits.bounds(2, 0, 100, (x, n) -> x.trim(ZERO_ONE, n));
        Limits.machineBounds((x, a) -> x.trim(a, 1));
    }

    // ---- 15 part

    private static void partCases() {
        Check.boundary(15, "how = 0 at their beginning (with none to all of their LETTERS; no PLACES)",
            BoundsActsTest::partBeginning);
        Check.boundary(15, "1 at their end, 2 anywhere", BoundsActsTest::partElsewhere);
        Check.boundary(15, "first that of all; the NEXT ones", BoundsActsTest::partFirst);
        Check.boundary(15, "ENDS of 2: those with a STATE from which LETTERS, or none, lead to an END",
            BoundsActsTest::partEnds);
        Check.boundary(15, BAD_WORDS, BoundsActsTest::partBad);
        Check.boundary(15, STATES_WORDS, BoundsActsTest::partStates);
        Check.boundary(15, PLACES_WORDS, BoundsActsTest::partPlaces);
        Check.boundary(15, FULL_WORDS, BoundsActsTest::partFull);
    }

    private static void partBeginning() {
        TextMachines x = new TextMachines(2);
        int none = x.make(2);
        int empty = Given.one(x, "");
        Check.due("of none: not even no letters", x.part(none, 0), none);
        Check.due("of no letters", x.part(empty, 0), empty);
        Check.due("none to all", x.part(Given.one(x, "011"), 0), Given.some(x, "", "0", "01", "011"));
        Check.due("of all", x.part(x.make(1), 0), x.make(1));
        noPlaces(y -> y.part(ZERO_ONE, 0));
        noPlaces(y -> y.part(y.make(2), 0));
        Limits.fits(2, 40, 0, y -> y.part(Given.one(y, "01".repeat(19)), 0));
    }

    private static void partElsewhere() {
        TextMachines x = new TextMachines(2);
        int none = x.make(2);
        int empty = Given.one(x, "");
        int a = Given.one(x, "011");
        Check.due("at the end of none", x.part(none, 1), none);
        Check.due("anywhere in none", x.part(none, 2), none);
        Check.due("at the end of no letters", x.part(empty, 1), empty);
        Check.due("anywhere in no letters", x.part(empty, 2), empty);
        Check.due("none to all at the end", x.part(a, 1), Given.some(x, "", "1", "11", "011"));
        Check.due("none to all anywhere", x.part(a, 2), Given.some(x, "", "0", "1", "01", "11", "011"));
    }

    private static void partFirst() {
        TextMachines x = new TextMachines(2);
        int none = x.make(2);
        int zero = Given.one(x, "0");
        for (int how = 1; how <= 2; how++) {
            x.part(none, how);
            Check.due("CAME of none", x.of(2), 1);
            x.part(zero, how);
            Check.due("CAME of 0: {0, 1, 2}, {1, 2}, {2}", x.of(2), 3);
            int part = x.part(ring40(x), how);
            Check.due("CAME of a ring: all states stay", x.of(2), 1);
            Check.due("all texts", part, x.make(1));
        }
    }

    private static void partEnds() {
        TextMachines x = new TextMachines(2);
        int a = Given.one(x, "01");
        int within = x.part(a, 2);
        Given.collect(x, "0");
        Check.due("a letter leads to the end", x.has(within), 1);
        Check.due("at the end alone: it does not do", x.has(x.part(a, 1)), 0);
        Given.collect(x, "01");
        Check.due("none leads to the end", x.has(within), 1);
        Given.collect(x, "010");
        Check.due("no way on", x.has(within), 0);
    }

    private static void partBad() {
        Limits.bounds(2, 0, 2, (x, how) -> x.part(ZERO_ONE, how));
        for (int how = 0; how <= 2; how++) {
            int which = how;
            Limits.machineBounds((x, a) -> x.part(a, which));
        }
    }

    private static void partStates() {
        Limits.fits(2, 40, 42, x -> x.part(manyNumerals(x, 13, 22), 1));
        Limits.large(2, 41, x -> x.part(manyNumerals(x, 18, 26), 1));
        Limits.fits(2, 40, 191, x -> x.part(manyNumerals(x, 16, 39), 2));
        Limits.large(2, 41, x -> x.part(manyNumerals(x, 37, 47), 2));
    }

    private static void partPlaces() {
        Limits.fits(3, 24, 200, x -> x.part(manyNumerals(x, 18, 60), 1));
        Limits.large(3, 201, x -> x.part(manyNumerals(x, 8, 45), 1));
        Limits.fits(3, 24, 200, x -> x.part(manyNumerals(x, 18, 58), 2));
        Limits.large(3, 201, x -> x.part(manyNumerals(x, 8, 45), 2));
    }

    private static void partFull() {
        for (int how = 0; how <= 2; how++) {
            int which = how;
            Limits.full(2, x -> Given.one(x, "011"), (x, a) -> x.part(a, which));
        }
    }

    // ---- 16 widen

    private static void widenCases() {
        Check.boundary(16, "by each TEXT of up to d LETTERS (0 .. 40; also by that without any)",
            BoundsActsTest::widenDepths);
        Check.boundary(16, "sets of STATES, each with all that are LIKE one in it; first that of 0",
            BoundsActsTest::widenFirst);
        Check.boundary(16, BAD_WORDS, BoundsActsTest::widenBad);
        Check.boundary(16, STATES_WORDS, BoundsActsTest::widenStates);
        Check.boundary(16, PLACES_WORDS, BoundsActsTest::widenPlaces);
        Check.boundary(16, FULL_WORDS, () -> Limits.full(2, x -> Given.one(x, "01"), (x, a) -> x.widen(a, 0)));
    }

    /** Of 38 zeros the first state and the one aside are told apart by 38 letters, not by 37. */
    private static void widenDepths() {
        TextMachines x = new TextMachines(2);
        int a = Given.one(x, "0".repeat(38));
        Check.due("40", x.widen(a, 40), a);
        Check.due("39", x.widen(a, 39), a);
        Check.due("38", x.widen(a, 38), a);
        int wider = x.widen(a, 37);
        Check.holds("37 is wider", wider != a && x.within(a, wider) == 1);
        Check.due("37: a 1 ahead does not matter then", x.has(wider), 1);
        Given.collect(x, "1" + "0".repeat(38));
        Check.due("37: a 1 ahead", x.has(wider), 1);
        Check.due("38: a 1 ahead", x.has(a), 0);
        int widest = x.widen(a, 0);
        Given.collect(x, "10");
        Check.due("0: a 0 at the end is all that matters", x.has(widest), 1);
        x.add(1);
        Check.due("0: the ends are told apart still", x.has(widest), 0);
        int none = x.make(2);
        int all = x.make(1);
        Check.due("none, 0", x.widen(none, 0), none);
        Check.due("none, 40", x.widen(none, 40), none);
        Check.due("all, 0", x.widen(all, 0), all);
        Check.due("all, 40", x.widen(all, 40), all);
    }

    private static void widenFirst() {
        TextMachines x = new TextMachines(2);
        int a = Given.one(x, "000");
        x.widen(a, 0);
        Check.due("CAME: all but the end, and all", x.of(2), 2);
        x.widen(a, 40);
        Check.due("CAME: each state by itself", x.of(2), 5);
        x.widen(x.make(1), 0);
        Check.due("CAME of all", x.of(2), 1);
    }

    private static void widenBad() {
        Limits.bounds(2, 0, 40, (x, d) -> x.widen(ZERO_ONE, d));
        Limits.machineBounds((x, a) -> x.widen(a, 1));
    }

    private static void widenStates() {
        Limits.fits(2, 40, 88, x -> x.widen(x.not(manyNumerals(x, 5, 21)), 3));
        Limits.large(3, 68, x -> x.widen(x.many(x.turn(x.numerals(26, 66))), 2));
    }

    private static void widenPlaces() {
        Limits.fits(2, 6, 200, x -> x.widen(x.many(x.turn(x.numerals(10, 60))), 3));
        Limits.large(2, 201, x -> x.widen(manyNumerals(x, 7, 34), 3));
    }

    // ---- 17 when

    private static void whenCases() {
        Check.boundary(17, "op = 0 are COLLECTED, 1 begin with it, 2 end with it, 3 have it anywhere",
            BoundsActsTest::whenNothingIsCollected);
        Check.boundary(17, "if not yes, those of a that do not", BoundsActsTest::whenNot);
        Check.boundary(17, "LARGE: the MACHINE of such TEXTS has more than 40 STATES (no PLACES then).",
            BoundsActsTest::whenLargeCondition);
        Check.boundary(17, "a STATE of a and one of that MACHINE, as of pair(0, ..)", BoundsActsTest::whenAsPair);
        Check.boundary(17, BAD_WORDS, BoundsActsTest::whenBad);
        Check.boundary(17, STATES_WORDS, BoundsActsTest::whenStates);
        Check.boundary(17, PLACES_WORDS, BoundsActsTest::whenPlaces);
        Check.boundary(17, FULL_WORDS, BoundsActsTest::whenFull);
    }

    private static void whenNothingIsCollected() {
        TextMachines x = new TextMachines(2);
        int none = x.make(2);
        int empty = x.make(0);
        int a = Given.some(x, "", "0", "01");
        int b = Given.some(x, "0", "01");
        x.wipe();
        Check.due("is the text without letters", x.when(0, a, true), empty);
        Check.due("CAME", x.of(2), 4);
        Check.due("is not", x.when(0, a, false), b);
        Check.due("none is", x.when(0, b, true), none);
        for (int op = 1; op <= 3; op++) {
            Check.due("all have it, op " + op, x.when(op, a, true), a);
            Check.due("CAME: the condition has one state, op " + op, x.of(2), 4);
            Check.due("none has it not, op " + op, x.when(op, a, false), none);
            Check.due("CAME, op " + op, x.of(2), 4);
        }
    }

    private static void whenNot() {
        TextMachines x = new TextMachines(2);
        int none = x.make(2);
        int a = Given.some(x, "", "0", "01", "10", "101");
        Given.collect(x, "01");
        for (int op = 0; op <= 3; op++) {
            int yes = x.when(op, a, true);
            int no = x.when(op, a, false);
            Check.due("both together, op " + op, x.pair(1, yes, no), a);
            Check.due("none in both, op " + op, x.pair(0, yes, no), none);
            Check.due("the text without letters does not, op " + op, x.end(no, 0), 1);
            Check.due("none, op " + op, x.when(op, none, false), none);
            Check.due("none, yes, op " + op, x.when(op, none, true), none);
        }
        Given.collect(x, "1011");
        for (int op = 0; op <= 3; op++) {
            Check.due("longer than all, op " + op, x.when(op, a, true), none);
            Check.due("longer than all, not, op " + op, x.when(op, a, false), a);
        }
    }

    private static void whenLargeCondition() {
        // alone and ahead: one state a letter, behind the last one, and aside; else none aside
        int[] mostLetters = {38, 38, 39, 39};
        for (int op = 0; op <= 3; op++) {
            for (boolean yes : new boolean[] {true, false}) {
                largeCondition(op, mostLetters[op], yes);
            }
        }
    }

    private static void largeCondition(int op, int most, boolean yes) {
        TextMachines x = new TextMachines(2);
        int all = x.make(1);
        int none = x.make(2);
        Given.collect(x, "1".repeat(most));
        String name = "op " + op + " of " + most + " letters, " + yes;
        Check.holds(name, x.when(op, all, yes) == 2);
        Check.due("CAME, " + name, x.of(2), 40);
        x.add(1);
        Check.due("one more, " + name, x.when(op, all, yes), LARGE);
        Check.due("CAME then: no places, " + name, x.of(2), 0);
        x.turn(all);
        Check.due("CAME between", x.of(2), 1);
        Check.due("also of none, " + name, x.when(op, none, yes), LARGE);
        Check.due("CAME then, " + name, x.of(2), 0);
        for (int i = x.of(1); i < 100; i++) {
            x.add(0);
        }
        Check.due("100 letters, " + name, x.when(op, all, yes), LARGE);
        Check.due("BAD ahead of it, " + name, x.when(op, 3, yes), BAD);
        Check.due("nothing came, " + name, x.of(0), 3);
    }

    private static void whenAsPair() {
        String[] texts = {"", "0", "0110", "000"};
        for (String text : texts) {
            for (int op = 0; op <= 3; op++) {
                TextMachines x = new TextMachines(2);
                int all = x.make(1);
                int a = x.numerals(5, 90);
                Given.collect(x, text);
                int condition = x.when(op, all, true);
                Check.due("CAME of all: the states of the condition", x.of(2), x.states(condition));
                int both = x.pair(0, a, condition);
                int places = x.of(2);
                Check.due("when, op " + op, x.when(op, a, true), both);
                Check.due("CAME, op " + op, x.of(2), places);
                Check.due("when not, op " + op, x.when(op, a, false), x.pair(2, a, condition));
                x.when(op, a, false);
                Check.due("CAME of not, op " + op, x.of(2), places);
            }
        }
    }

    private static void whenBad() {
        Limits.bounds(2, 0, 3, (x, op) -> x.when(op, ZERO_ONE, true));
        Limits.bounds(2, 0, 3, (x, op) -> x.when(op, ZERO_ONE, false));
        for (int op = 0; op <= 3; op++) {
            int which = op;
            Limits.machineBounds((x, a) -> x.when(which, a, true));
        }
    }

    private static void whenStates() {
        Limits.fits(2, 40, 40, x -> whenNotEmpty(x, manyNumerals(x, 15, 59)));
        Limits.large(2, 41, x -> whenNotEmpty(x, manyNumerals(x, 14, 64)));
    }

    private static int whenNotEmpty(TextMachines x, int a) {
        x.wipe();
        return x.when(0, a, false);
    }

    /**
     * Lengths that divide by 8 of texts that end with 1, and 24 zeros at the end: none has both. The
     * places are each length with each number of zeros, 200, if the first one is an end as those
     * behind a 1; 201, if it is not.
     */
    private static void whenPlaces() {
        Limits.fits(2, 1, 200, x -> whenZeros(x, x.pair(1, endingWithOne(x), Given.one(x, "")), true));
        Limits.fits(2, 9, 200, x -> whenZeros(x, x.pair(1, endingWithOne(x), Given.one(x, "")), false));
        Limits.large(2, 201, x -> whenZeros(x, endingWithOne(x), true));
        Limits.large(2, 201, x -> whenZeros(x, endingWithOne(x), false));
    }

    private static int endingWithOne(TextMachines x) {
        return x.pair(0, Given.ring(x, 8), x.join(x.make(1), Given.one(x, "1")));
    }

    private static int whenZeros(TextMachines x, int a, boolean yes) {
        Given.collect(x, "0".repeat(24));
        return x.when(2, a, yes);
    }

    private static void whenFull() {
        for (int op = 0; op <= 3; op++) {
            int which = op;
            Limits.full(2, BoundsActsTest::someAndTheFirst, (x, a) -> x.when(which, a, false));
            Limits.full(2, BoundsActsTest::allAndOne, (x, a) -> x.when(which, a, true));
        }
    }

    private static int someAndTheFirst(TextMachines x) {
        int a = Given.some(x, "01", "10", "101", "010", "");
        Given.collect(x, "01");
        return a;
    }

    private static int allAndOne(TextMachines x) {
        Given.collect(x, "10");
        return x.make(1);
    }

    // ---- 18 numerals

    private static void numeralsCases() {
        Check.boundary(18, "(0 .. 1000000000, low not above high)", BoundsActsTest::numeralsBad);
        Check.boundary(18, "Numerals of low .. high", BoundsActsTest::numeralsSpans);
        Check.boundary(18, "no 0 ahead (0 is 0 alone)", BoundsActsTest::numeralsZero);
        Check.boundary(18, "their digits to the base k, the highest first", BoundsActsTest::numeralsHighest);
        Check.boundary(18, "(No PLACES.)", BoundsActsTest::numeralsNoPlaces);
        Check.boundary(18, STATES_WORDS, BoundsActsTest::numeralsLarge);
        Check.boundary(18, FULL_WORDS, () -> Limits.full(2, x -> x.make(1), (x, a) -> x.numerals(3, 9)));
    }

    private static void numeralsBad() {
        for (int letters = 2; letters <= 4; letters++) {
            Limits.bounds(letters, 0, 1000000000, (x, low) -> x.numerals(low, 1000000000));
            Limits.bounds(letters, 0, 1000000000, (x, high) -> x.numerals(0, high));
            Limits.bounds(letters, 7, 1000000000, (x, high) -> x.numerals(7, high));
            Limits.bounds(letters, 0, 7, (x, low) -> x.numerals(low, 7));
            Limits.isBad(letters, false, -1, (x, low) -> x.numerals(low, low));
            Limits.isBad(letters, false, 1000000001, (x, high) -> x.numerals(high, high));
            Limits.isBad(letters, false, 1000000000, (x, low) -> x.numerals(low, low - 1));
        }
    }

    private static void numeralsSpans() {
        TextMachines x = new TextMachines(2);
        Check.due("low is high", x.numerals(6, 6), Given.one(x, "110"));
        Check.due("low is in, and high", x.numerals(6, 8), Given.some(x, "110", "111", "1000"));
        Check.due("one digit to two", x.numerals(1, 2), Given.some(x, "1", "10"));
        int span = x.numerals(64, 127);
        Check.due("all of 7 digits", x.count(span, 7), 64);
        Check.due("none of 6", x.count(span, 6), 0);
        Check.due("none of 8", x.count(span, 8), 0);
        int wider = x.numerals(63, 128);
        Check.due("one of 6", x.count(wider, 6), 1);
        Check.due("one of 8", x.count(wider, 8), 1);
    }

    private static void numeralsZero() {
        TextMachines x = new TextMachines(2);
        int zero = x.numerals(0, 0);
        Check.due("0 is 0 alone", zero, Given.one(x, "0"));
        int few = x.numerals(0, 3);
        Check.due("0 .. 3", few, Given.some(x, "0", "1", "10", "11"));
        Check.due("without 0", x.numerals(1, 3), Given.some(x, "1", "10", "11"));
        String[] out = {"", "00", "01", "001", "011"};
        for (String text : out) {
            Given.collect(x, text);
            Check.due("'" + text + "' is no numeral", x.has(few), 0);
        }
    }

    private static void numeralsHighest() {
        String[] due = {"111011100110101100101000000000", "2120200200021010001", "323212230220000"};
        for (int letters = 2; letters <= 4; letters++) {
            TextMachines x = new TextMachines(letters);
            int highest = x.numerals(1000000000, 1000000000);
            Check.due("digits to the base " + letters, x.pick(highest, 0), due[letters - 2].length());
            Check.due("the highest first", Given.toldText(x), due[letters - 2]);
            Check.due("it alone", x.pick(highest, 1), NONE);
        }
    }

    private static void numeralsNoPlaces() {
        noPlaces(x -> x.numerals(0, 0));
        noPlaces(x -> x.numerals(3, 1000));
        TextMachines x = Given.busy(2);
        Check.due("LARGE", x.numerals(0, 1000000000), LARGE);
        Check.due("CAME of LARGE", x.of(2), 0);
    }

    private static void numeralsLarge() {
        Limits.fits(2, 40, 0, x -> x.numerals(0, 1048577));
        Limits.large(2, 0, x -> x.numerals(0, 1048576));
        Limits.large(2, 0, x -> x.numerals(0, 1000000000));
        Limits.fits(3, 39, 0, x -> x.numerals(0, 1000000000));
        Limits.fits(4, 31, 0, x -> x.numerals(0, 1000000000));
    }
}
