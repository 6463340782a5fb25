import static java.lang.Integer.MAX_VALUE;
import static java.lang.Integer.MIN_VALUE;

/** What is due at a limit, said once for all calls. Each question is asked of a new object. */
final class Limits {
    private static final int BAD = TextMachines.BAD, FULL = TextMachines.FULL, LARGE = TextMachines.LARGE;

    /** A call whose last step is the one that matters; what it needs is made ahead in it. */
    interface Act {
        int on(TextMachines x);
    }

    /** A call that takes a number. */
    interface NumberAct {
        int on(TextMachines x, int number);
    }

    private Limits() {
    }

    /** The act makes a machine of so many states out of so many places. */
    static void fits(int letters, int states, int places, Act act) {
        TextMachines x = new TextMachines(letters);
        int made = act.on(x);
        Check.holds("a machine comes, not " + made, made >= 0);
        Check.due("CAME", x.of(2), places);
        Check.due("states", x.states(made), states);
    }

    /** LARGE, also ahead of FULL; nothing changes but CAME. */
    static void large(int letters, int came, Act act) {
        TextMachines x = new TextMachines(letters);
        Check.due("LARGE", act.on(x), LARGE);
        Check.due("CAME", x.of(2), came);
        String before = Given.state(x);
        act.on(x);
        Check.due("what there is after LARGE", Given.state(x), before);
        TextMachines y = new TextMachines(letters);
        act.on(y);
        Given.fillShelf(y);
        Check.due("machines on the full shelf", y.of(0), 60);
        Check.due("LARGE ahead of FULL", act.on(y), LARGE);
        Check.due("CAME of LARGE ahead of FULL", y.of(2), came);
    }

    /** FULL, if the act's machine would be the 61st; its number, if it is one of the 60. */
    static void full(int letters, Act given, NumberAct act) {
        TextMachines x = new TextMachines(letters);
        int a = given.on(x);
        int before = x.of(0);
        Check.due("it comes, as the next one", act.on(x, a), before);
        Check.due("so there is one more", x.of(0), before + 1);
        int came = x.of(2);
        sixtyFirst(letters, given, act, came);
        lastOfSixty(letters, given, act, came);
        Given.fillShelf(x);
        Check.due("it is there on the full shelf", act.on(x, a), before);
        Check.due("CAME of one that is there", x.of(2), came);
        Check.due("still 60", x.of(0), 60);
    }

    private static void sixtyFirst(int letters, Act given, NumberAct act, int came) {
        TextMachines x = new TextMachines(letters);
        int a = given.on(x);
        Given.fillShelf(x);
        Check.due("machines on the full shelf", x.of(0), 60);
        String before = Given.state(x);
        Check.due("a 61st", act.on(x, a), FULL);
        Check.due("CAME of FULL", x.of(2), came);
        Check.due("what there is after FULL", Given.state(x), before);
    }

    private static void lastOfSixty(int letters, Act given, NumberAct act, int came) {
        TextMachines x = new TextMachines(letters);
        int a = given.on(x);
        Given.fillShelf(x, 59);
        Check.due("the 60th", act.on(x, a), 59);
        Check.due("CAME of the 60th", x.of(2), came);
        Check.due("60 then", x.of(0), 60);
    }

    /** Numbers from the one to the other are not BAD; those beside them are, and change nothing. */
    static void bounds(int letters, int low, int high, NumberAct act) {
        for (boolean full : new boolean[] {false, true}) {
            notBad(letters, full, low, act);
            notBad(letters, full, high, act);
            if (low > MIN_VALUE) {
                isBad(letters, full, low - 1, act);
                isBad(letters, full, MIN_VALUE, act);
            }
            if (high < MAX_VALUE) {
                isBad(letters, full, high + 1, act);
                isBad(letters, full, MAX_VALUE, act);
            }
        }
    }

    /** The number is that of a letter. */
    static void letterBounds(NumberAct act) {
        for (int letters = 2; letters <= 4; letters++) {
            bounds(letters, 0, letters - 1, act);
        }
    }

    /** The number is that of a machine: of 3, of 60, or of none at all. */
    static void machineBounds(NumberAct act) {
        for (int number : new int[] {0, 2}) {
            notBad(2, false, number, act);
        }
        for (int number : new int[] {0, 59}) {
            notBad(2, true, number, act);
        }
        for (int number : new int[] {MIN_VALUE, -5, -2, -1, 3, 59, 60, MAX_VALUE}) {
            isBad(2, false, number, act);
        }
        for (int number : new int[] {MIN_VALUE, -1, 60, 61, MAX_VALUE}) {
            isBad(2, true, number, act);
        }
        TextMachines x = new TextMachines(2);
        Check.due("0, where there are no machines", act.on(x, 0), BAD);
        x.make(1);
        x.clear();
        Check.due("0 after clear", act.on(x, 0), BAD);
    }

    private static TextMachines object(int letters, boolean full) {
        return full ? Given.full(letters) : Given.busy(letters);
    }

    private static void notBad(int letters, boolean full, int number, NumberAct act) {
        int answer = act.on(object(letters, full), number);
        Check.holds(number + " is not BAD" + (full ? " on the full shelf" : ""), answer != BAD);
    }

    /** On the full shelf, with 100 letters collected, BAD is ahead of LARGE and of FULL. */
    static void isBad(int letters, boolean full, int number, NumberAct act) {
        TextMachines x = object(letters, full);
        String before = Given.state(x);
        int came = x.of(2);
        Check.due(number + (full ? " on the full shelf" : ""), act.on(x, number), BAD);
        Check.due("CAME after BAD", x.of(2), came);
        Check.due("what there is after BAD", Given.state(x), before);
    }
}
