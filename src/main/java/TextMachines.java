/**
 * Sets of texts over a few letters, each kept as the one least machine that tells them.
 *
 * A set of STATES is a long: bit s stands for STATE s (there are 40 at most). A PLACE of an act is
 * a long, too; what its bits say is the matter of the act's rule.
 */
public final class TextMachines {
    public static final int NONE = -1, BAD = -2, FULL = -3, LARGE = -4, ENDLESS = -5;

    private static final int LEAST_LETTERS = 2;
    private static final int MOST_LETTERS = 4;
    private static final int MOST_STATES = 40;
    /** Any STATE fits into so many bits of a number. */
    private static final int STATE_BITS = 6;
    private static final int STATE_MASK = 63;
    private static final int MOST_MACHINES = 60;
    private static final int MOST_PLACES = 200;
    private static final int MOST_IN_TEXT = 100;
    private static final int MOST_TO_WIDEN = 40;
    private static final int HIGHEST_NUMBER = 1000000000;
    private static final int MOST_DIGITS = 31;
    private static final long HIGHEST_COUNT = 1000000000000000000L;

    private static final int BOTH = 0, EITHER = 1, FIRST_ALONE = 2, JUST_ONE = 3;
    private static final int IS = 0, BEGINS = 1, ENDS = 2, CONTAINS = 3;

    private final int letters;
    private final Row collected;
    private final Row lastTold;
    private final Machine[] machines;
    private final Places places;
    private final Machine made;
    private final Machine condition;
    private final SetsRule sets;
    private final TextRule texts;
    private final NumeralsRule numbers;
    private final Comparison comparison;
    private final Tally tally;
    private int kept;
    private int came;

    public TextMachines(int letters) {
        this.letters = Math.max(LEAST_LETTERS, Math.min(MOST_LETTERS, letters));
        collected = new Row();
        lastTold = new Row();
        machines = new Machine[MOST_MACHINES];
        for (int i = 0; i < MOST_MACHINES; i++) {
            machines[i] = new Machine(this.letters);
        }
        places = new Places(this.letters);
        made = new Machine(this.letters);
        condition = new Machine(this.letters);
        sets = new SetsRule(this.letters);
        texts = new TextRule();
        numbers = new NumeralsRule(this.letters);
        comparison = new Comparison(this.letters);
        tally = new Tally(this.letters);
        kept = 0;
        came = 0;
    }

    public int clear() {
        int had = kept;
        kept = 0;
        came = 0;
        collected.shortenTo(0);
        lastTold.shortenTo(0);
        return had;
    }

    public int add(int letter) {
        if (!isLetter(letter)) {
            return BAD;
        }
        return collected.append(letter) ? collected.size : FULL;
    }

    public int wipe() {
        int had = collected.size;
        collected.shortenTo(0);
        return had;
    }

    public int make(int what) {
        if (what < 0 || what > 2) {
            return BAD;
        }
        came = 0;
        if (what == 0) {
            texts.look(IS, collected);
            return places.explore(texts) ? keepLeast() : LARGE;
        }
        made.begin(1);
        made.setEnds(what == 1 ? 1L : 0L);
        return keep(made);
    }

    public int pair(int how, int a, int b) {
        if (how < BOTH || how > JUST_ONE || !isThere(a) || !isThere(b)) {
            return BAD;
        }
        return keepPlacesOf(new PairRule(how, machine(a), machine(b)));
    }

    public int not(int a) {
        if (!isThere(a)) {
            return BAD;
        }
        came = 0;
        made.copy(machine(a));
        made.setEnds(~made.ends);
        return keep(made);
    }

    public int join(int a, int b) {
        if (!isThere(a) || !isThere(b)) {
            return BAD;
        }
        return keepPlacesOf(new JoinRule(machine(a), machine(b)));
    }

    public int many(int a) {
        if (!isThere(a)) {
            return BAD;
        }
        sets.repeat(machine(a));
        return keepPlacesOf(sets);
    }

    public int turn(int a) {
        if (!isThere(a)) {
            return BAD;
        }
        sets.reverse(machine(a));
        return keepPlacesOf(sets);
    }

    public int become(int a, int x, int y) {
        if (!isThere(a) || !isLetter(x) || !isLetter(y)) {
            return BAD;
        }
        sets.follow(machine(a));
        sets.readAs(x, y);
        return keepPlacesOf(sets);
    }

    public int drop(int a, int x) {
        if (!isThere(a) || !isLetter(x)) {
            return BAD;
        }
        sets.skip(machine(a), x);
        return keepPlacesOf(sets);
    }

    public int cut(int a, int n) {
        if (!isThere(a) || n < 0 || n > MOST_IN_TEXT) {
            return BAD;
        }
        Machine source = machine(a);
        sets.follow(source);
        sets.startAt(source.reachedBy(n));
        return keepPlacesOf(sets);
    }

    public int trim(int a, int n) {
        if (!isThere(a) || n < 0 || n > MOST_IN_TEXT) {
            return BAD;
        }
        Machine source = machine(a);
        return keepWithEnds(source, source.endingIn(n));
    }

    public int part(int a, int how) {
        if (!isThere(a) || how < 0 || how > 2) {
            return BAD;
        }
        Machine source = machine(a);
        if (how == 0) {
            return keepWithEnds(source, source.liveStates());
        }
        sets.follow(source);
        sets.startAt(source.allStates());
        if (how == 2) {
            sets.endAt(source.liveStates());
        }
        return keepPlacesOf(sets);
    }

    public int widen(int a, int d) {
        if (!isThere(a) || d < 0 || d > MOST_TO_WIDEN) {
            return BAD;
        }
        sets.blur(machine(a), d);
        return keepPlacesOf(sets);
    }

    public int when(int op, int a, boolean yes) {
        if (op < IS || op > CONTAINS || !isThere(a)) {
            return BAD;
        }
        came = 0;
        texts.look(op, collected);
        if (!places.explore(texts) || !places.shrinkTo(condition)) {
            return LARGE;
        }
        return keepPlacesOf(new PairRule(yes ? BOTH : FIRST_ALONE, machine(a), condition));
    }

    public int numerals(int low, int high) {
        if (low < 0 || high > HIGHEST_NUMBER || low > high) {
            return BAD;
        }
        came = 0;
        numbers.span(low, high);
        return places.explore(numbers) ? keepLeast() : LARGE;
    }

    public int states(int a) {
        return isThere(a) ? machine(a).size : BAD;
    }

    public int next(int a, int state, int letter) {
        if (!isState(a, state) || !isLetter(letter)) {
            return BAD;
        }
        return machine(a).step(state, letter);
    }

    public int end(int a, int state) {
        if (!isState(a, state)) {
            return BAD;
        }
        return machine(a).isEnd(state) ? 1 : 0;
    }

    public int has(int a) {
        if (!isThere(a)) {
            return BAD;
        }
        Machine in = machine(a);
        return in.isEnd(in.walk(collected)) ? 1 : 0;
    }

    public int within(int a, int b) {
        if (!isThere(a) || !isThere(b)) {
            return BAD;
        }
        return comparison.search(FIRST_ALONE, machine(a), machine(b)) == NONE ? 1 : 0;
    }

    public int differ(int a, int b) {
        if (!isThere(a) || !isThere(b)) {
            return BAD;
        }
        int found = comparison.search(JUST_ONE, machine(a), machine(b));
        if (found == NONE) {
            return NONE;
        }
        comparison.tellWay(found, lastTold);
        return lastTold.size;
    }

    public long count(int a, int n) {
        if (!isThere(a) || n < 0 || n > MOST_IN_TEXT) {
            return BAD;
        }
        return tally.waysOf(machine(a), n);
    }

    public int pick(int a, int i) {
        if (!isThere(a) || i < 0) {
            return BAD;
        }
        return tally.tellText(machine(a), i, lastTold) ? lastTold.size : NONE;
    }

    public int told(int i) {
        return lastTold.at(i);
    }

    public int longest(int a) {
        return isThere(a) ? machine(a).mostLetters() : BAD;
    }

    public int of(int what) {
        switch (what) {
            case 0:
                return kept;
            case 1:
                return collected.size;
            case 2:
                return came;
            case 3:
                return letters;
            default:
                return BAD;
        }
    }

    private boolean isLetter(int letter) {
        return letter >= 0 && letter < letters;
    }

    private boolean isState(int a, int state) {
        return isThere(a) && state >= 0 && state < machine(a).size;
    }

    private boolean isThere(int number) {
        return number >= 0 && number < kept;
    }

    /** The first one stands in for a number that is none: callers ask isThere before. */
    private Machine machine(int number) {
        return machines[isThere(number) ? number : 0];
    }

    private int keepPlacesOf(Rule rule) {
        boolean few = places.explore(rule);
        came = few ? places.size : MOST_PLACES + 1;
        return few ? keepLeast() : LARGE;
    }

    private int keepWithEnds(Machine source, long ends) {
        came = 0;
        places.take(source, ends);
        return keepLeast();
    }

    private int keepLeast() {
        return places.shrinkTo(made) ? keep(made) : LARGE;
    }

    private int keep(Machine least) {
        for (int i = 0; i < kept; i++) {
            if (machines[i].isSame(least)) {
                return i;
            }
        }
        if (kept >= MOST_MACHINES) {
            return FULL;
        }
        machines[kept].copy(least);
        kept++;
        return kept - 1;
    }

    private static boolean isWanted(int how, boolean inA, boolean inB) {
        switch (how) {
            case BOTH:
                return inA && inB;
            case EITHER:
                return inA || inB;
            case FIRST_ALONE:
                return inA && !inB;
            default:
                return inA != inB;
        }
    }

    private static boolean isIn(long set, int state) {
        return (set >>> state & 1L) != 0L;
    }

    /** A row of up to 100 letters. */
    private static final class Row {
        private final int[] items = new int[MOST_IN_TEXT];
        private int size = 0;

        boolean append(int letter) {
            if (size >= MOST_IN_TEXT) {
                return false;
            }
            items[size] = letter;
            size++;
            return true;
        }

        void shortenTo(int length) {
            if (length >= 0 && length < size) {
                size = length;
            }
        }

        void copy(Row other) {
            size = other.size;
            System.arraycopy(other.items, 0, items, 0, items.length);
        }

        int at(int i) {
            return i >= 0 && i < size ? items[i] : NONE;
        }

        void turnAround() {
            for (int i = 0; i < size / 2; i++) {
                int letter = items[i];
                items[i] = items[size - 1 - i];
                items[size - 1 - i] = letter;
            }
        }
    }

    /** A least machine whose states are numbered as they are come to. */
    private static final class Machine {
        private final int letters;
        /** Of each state the next ones by all letters in one number, to spare room: 4 times 6 bits. */
        private final int[] steps = new int[MOST_STATES];
        private int size = 1;
        private long ends = 0L;

        Machine(int letters) {
            this.letters = letters;
        }

        /** Takes so many states, 1 .. 40, all of them without an end and leading to 0. */
        void begin(int states) {
            size = Math.max(1, Math.min(MOST_STATES, states));
            ends = 0L;
            for (int i = 0; i < steps.length; i++) {
                steps[i] = 0;
            }
        }

        void copy(Machine other) {
            size = other.size;
            ends = other.ends;
            System.arraycopy(other.steps, 0, steps, 0, steps.length);
        }

        void setStep(int state, int letter, int to) {
            if (hasStep(state, letter) && to >= 0 && to < size) {
                int at = letter * STATE_BITS;
                steps[state] = steps[state] & ~(STATE_MASK << at) | to << at;
            }
        }

        void setEnds(long states) {
            ends = states & allStates();
        }

        private boolean hasStep(int state, int letter) {
            return state >= 0 && state < size && letter >= 0 && letter < letters;
        }

        int step(int state, int letter) {
            return hasStep(state, letter) ? steps[state] >>> letter * STATE_BITS & STATE_MASK : 0;
        }

        boolean isEnd(int state) {
            return state >= 0 && state < size && isIn(ends, state);
        }

        boolean isSame(Machine other) {
            if (size != other.size || ends != other.ends) {
                return false;
            }
            for (int i = 0; i < size; i++) {
                if (steps[i] != other.steps[i]) {
                    return false;
                }
            }
            return true;
        }

        int walk(Row text) {
            int state = 0;
            for (int i = 0; i < text.size; i++) {
                state = step(state, text.at(i));
            }
            return state;
        }

        long allStates() {
            return (1L << size) - 1L;
        }

        long after(long set, int letter) {
            long reached = 0L;
            for (int state = 0; state < size; state++) {
                if (isIn(set, state)) {
                    reached |= 1L << step(state, letter);
                }
            }
            return reached;
        }

        private long afterAny(long set) {
            long reached = 0L;
            for (int letter = 0; letter < letters; letter++) {
                reached |= after(set, letter);
            }
            return reached;
        }

        private long beforeAny(long set) {
            long leading = 0L;
            for (int state = 0; state < size; state++) {
                for (int letter = 0; letter < letters; letter++) {
                    if (isIn(set, step(state, letter))) {
                        leading |= 1L << state;
                    }
                }
            }
            return leading;
        }

        /** The states to which texts of n letters lead. */
        long reachedBy(int n) {
            long reached = 1L;
            for (int i = 0; i < n; i++) {
                reached = afterAny(reached);
            }
            return reached;
        }

        /** The states from which a text of n letters leads to an end. */
        long endingIn(int n) {
            long leading = ends;
            for (int i = 0; i < n; i++) {
                leading = beforeAny(leading);
            }
            return leading;
        }

        /** The states from which any text, or none, leads to an end. */
        long liveStates() {
            long live = ends;
            for (int i = 0; i < size; i++) {
                live |= beforeAny(live);
            }
            return live;
        }

        /**
         * A text that has as many letters as there are states comes to one state twice, and what
         * lies between can be repeated: there are such texts below twice that length, or none.
         */
        int mostLetters() {
            int most = NONE;
            long reached = 1L;
            for (int n = 0; n < 2 * size; n++) {
                if ((reached & ends) != 0L) {
                    most = n;
                }
                reached = afterAny(reached);
            }
            return most >= size ? ENDLESS : most;
        }
    }

    /** How the places of an act come. */
    private abstract static class Rule {
        abstract long first();

        abstract long after(long place, int letter);

        abstract boolean isLast(long place);
    }

    /** A place is a state of each machine. */
    private static final class PairRule extends Rule {
        private final int how;
        private final Machine a;
        private final Machine b;

        PairRule(int how, Machine a, Machine b) {
            this.how = how;
            this.a = a;
            this.b = b;
        }

        long first() {
            return 0L;
        }

        long after(long place, int letter) {
            long inA = a.step((int) (place >>> STATE_BITS), letter);
            return inA << STATE_BITS | b.step((int) (place & STATE_MASK), letter);
        }

        boolean isLast(long place) {
            return isWanted(how, a.isEnd((int) (place >>> STATE_BITS)), b.isEnd((int) (place & STATE_MASK)));
        }
    }

    /** A place is a state of a in the high bits and a set of states of b in the low ones. */
    private static final class JoinRule extends Rule {
        private static final long SET_MASK = (1L << MOST_STATES) - 1L;

        private final Machine a;
        private final Machine b;

        JoinRule(Machine a, Machine b) {
            this.a = a;
            this.b = b;
        }

        long first() {
            return placeOf(0, 0L);
        }

        long after(long place, int letter) {
            return placeOf(a.step((int) (place >>> MOST_STATES), letter), b.after(place & SET_MASK, letter));
        }

        boolean isLast(long place) {
            return (place & SET_MASK & b.ends) != 0L;
        }

        private long placeOf(int state, long set) {
            return (long) state << MOST_STATES | set | (a.isEnd(state) ? 1L : 0L);
        }
    }

    /**
     * A place is a set of states of one machine. Where each state leads by each letter is a set,
     * too, and laid down ahead; a set leads where the states in it lead.
     */
    private static final class SetsRule extends Rule {
        /** THE BEGINNING of many, held as one state more, so that it is a place of its own. */
        private static final int BEGINNING = MOST_STATES;

        private final int letters;
        private final long[] leads = new long[(MOST_STATES + 1) * MOST_LETTERS];
        /** The states that go along with each one wherever it is come to. */
        private final long[] company = new long[MOST_STATES];
        private final long[] closer = new long[MOST_STATES];
        private long start = 0L;
        private long ends = 0L;

        SetsRule(int letters) {
            this.letters = letters;
        }

        long first() {
            return start;
        }

        long after(long place, int letter) {
            long reached = 0L;
            for (int state = 0; state <= BEGINNING; state++) {
                if (isIn(place, state)) {
                    reached |= lead(state, letter);
                }
            }
            return reached;
        }

        boolean isLast(long place) {
            return (place & ends) != 0L;
        }

        void startAt(long set) {
            start = set;
        }

        void endAt(long set) {
            ends = set;
        }

        private boolean hasLead(int state, int letter) {
            return state >= 0 && state <= BEGINNING && letter >= 0 && letter < letters;
        }

        private long lead(int state, int letter) {
            return hasLead(state, letter) ? leads[state * MOST_LETTERS + letter] : 0L;
        }

        private void setLead(int state, int letter, long set) {
            if (hasLead(state, letter)) {
                leads[state * MOST_LETTERS + letter] = set;
            }
        }

        /** Each state leads to its next one. */
        void follow(Machine a) {
            for (int state = 0; state < MOST_STATES; state++) {
                company[state] = 1L << state;
            }
            followWithCompany(a);
        }

        private void forgetLeads() {
            for (int i = 0; i < leads.length; i++) {
                leads[i] = 0L;
            }
        }

        private void followWithCompany(Machine a) {
            forgetLeads();
            for (int state = 0; state < a.size; state++) {
                for (int letter = 0; letter < letters; letter++) {
                    setLead(state, letter, companyOf(a.step(state, letter)));
                }
            }
            start = companyOf(0);
            ends = a.ends;
        }

        private long companyOf(int state) {
            return state >= 0 && state < MOST_STATES ? company[state] : 0L;
        }

        /** Where a text of a may be over, the next one may begin. */
        void repeat(Machine a) {
            for (int state = 0; state < MOST_STATES; state++) {
                company[state] = 1L << state | (a.isEnd(state) ? 1L : 0L);
            }
            followWithCompany(a);
            for (int letter = 0; letter < letters; letter++) {
                setLead(BEGINNING, letter, lead(0, letter));
            }
            start = 1L << BEGINNING;
            ends = a.ends | start;
        }

        /** Each state leads to those whose next one it is. */
        void reverse(Machine a) {
            forgetLeads();
            for (int state = 0; state < a.size; state++) {
                for (int letter = 0; letter < letters; letter++) {
                    int to = a.step(state, letter);
                    setLead(to, letter, lead(to, letter) | 1L << state);
                }
            }
            start = a.ends;
            ends = 1L;
        }

        /** Letter x stands as y in the texts: y leads where both did, x nowhere. */
        void readAs(int x, int y) {
            if (x == y) {
                return;
            }
            for (int state = 0; state < MOST_STATES; state++) {
                setLead(state, y, lead(state, y) | lead(state, x));
                setLead(state, x, 0L);
            }
        }

        /** With each state go those to which x alone leads from it; x itself leads nowhere. */
        void skip(Machine a, int x) {
            for (int state = 0; state < MOST_STATES; state++) {
                company[state] = statesBy(a, state, x);
            }
            followWithCompany(a);
            for (int state = 0; state < MOST_STATES; state++) {
                setLead(state, x, 0L);
            }
        }

        private static long statesBy(Machine a, int from, int x) {
            long passed = 1L << from;
            int state = from;
            for (int i = 0; i < a.size; i++) {
                state = a.step(state, x);
                passed |= 1L << state;
            }
            return passed;
        }

        /** With each state go those that no text of up to d letters tells from it. */
        void blur(Machine a, int d) {
            for (int state = 0; state < MOST_STATES; state++) {
                company[state] = a.isEnd(state) ? a.ends : a.allStates() & ~a.ends;
            }
            for (int i = 0; i < d; i++) {
                sharpenCompany(a);
            }
            followWithCompany(a);
        }

        /** One letter more may tell states apart; all are judged by the company before it. */
        private void sharpenCompany(Machine a) {
            for (int state = 0; state < a.size; state++) {
                closer[state] = 0L;
                for (int other = 0; other < a.size; other++) {
                    if (isIn(company[state], other) && leadAlike(a, state, other)) {
                        closer[state] |= 1L << other;
                    }
                }
            }
            System.arraycopy(closer, 0, company, 0, a.size);
        }

        private boolean leadAlike(Machine a, int state, int other) {
            for (int letter = 0; letter < letters; letter++) {
                if (!isIn(companyOf(a.step(state, letter)), a.step(other, letter))) {
                    return false;
                }
            }
            return true;
        }
    }

    /** A place is how many letters of the text have been met, or that it was missed. */
    private static final class TextRule extends Rule {
        private static final int MISSED = MOST_IN_TEXT + 1;

        private final Row text = new Row();
        /** How many letters of the text those met still end with, if not all of them. */
        private final int[] fallback = new int[MOST_IN_TEXT + 1];
        private int op = IS;

        /** The text is to be looked for as told; none or one of its letters fall back to none. */
        void look(int how, Row wanted) {
            op = how;
            text.copy(wanted);
            for (int met = 1; met < text.size; met++) {
                fallback[met + 1] = metAnywhere(fallback[met], text.at(met));
            }
        }

        long first() {
            return 0L;
        }

        long after(long place, int letter) {
            int met = (int) place;
            boolean whole = met == text.size;
            if (whole && (op == BEGINS || op == CONTAINS)) {
                return met;
            }
            return op == IS || op == BEGINS ? metAhead(met, letter) : metAnywhere(met, letter);
        }

        boolean isLast(long place) {
            return place == text.size;
        }

        private int metAhead(int met, int letter) {
            return met < text.size && text.at(met) == letter ? met + 1 : MISSED;
        }

        /** How much of the text the letters met, with one more behind them, end with. */
        private int metAnywhere(int met, int letter) {
            int kept = met;
            for (int i = 0; i <= MOST_IN_TEXT; i++) {
                if (kept < text.size && text.at(kept) == letter) {
                    return kept + 1;
                }
                if (kept <= 0 || kept > MOST_IN_TEXT) {
                    return 0;
                }
                kept = fallback[kept];
            }
            return 0;
        }
    }

    /**
     * A place is how many digits have been met and, for each bound, whether they stand below, at
     * or above as many digits of it; or that nothing, a 0 or no numeral has been met.
     */
    private static final class NumeralsRule extends Rule {
        private static final int NOTHING = 0, ZERO = 1, NO_NUMERAL = 2, FIRST_CODE = 3;
        private static final int BELOW = 0, SAME = 1, ABOVE = 2, SIDES = 3;

        private final int base;
        private final Row low = new Row();
        private final Row high = new Row();

        NumeralsRule(int base) {
            this.base = base;
        }

        void span(int from, int to) {
            writeDigits(from, low);
            writeDigits(to, high);
        }

        private void writeDigits(int number, Row digits) {
            digits.shortenTo(0);
            int rest = number;
            for (int i = 0; i < MOST_DIGITS && base > 1 && (i == 0 || rest > 0); i++) {
                digits.append(rest % base);
                rest = rest / base;
            }
            digits.turnAround();
        }

        long first() {
            return NOTHING;
        }

        long after(long place, int letter) {
            if (place == NOTHING) {
                return letter == 0 ? ZERO : codeOf(1, side(low, 0, SAME, letter), side(high, 0, SAME, letter));
            }
            int digits = digitsOf(place);
            if (place < FIRST_CODE || digits >= high.size) {
                return NO_NUMERAL;
            }
            int toLow = side(low, digits, lowSide(place), letter);
            int toHigh = side(high, digits, highSide(place), letter);
            return codeOf(digits + 1, toLow, toHigh);
        }

        boolean isLast(long place) {
            if (place < FIRST_CODE) {
                return place == ZERO && low.at(0) == 0;
            }
            int digits = digitsOf(place);
            boolean notBelow = digits >= low.size && lowSide(place) != BELOW;
            return notBelow && (digits < high.size || highSide(place) != ABOVE);
        }

        /** Digits beyond the last one of a bound make a numeral that stands above it. */
        private static int side(Row bound, int at, int before, int letter) {
            if (at >= bound.size) {
                return ABOVE;
            }
            if (before != SAME || letter == bound.at(at)) {
                return before;
            }
            return letter < bound.at(at) ? BELOW : ABOVE;
        }

        private static long codeOf(int digits, int toLow, int toHigh) {
            return FIRST_CODE + (digits * SIDES + toLow) * SIDES + toHigh;
        }

        private static int digitsOf(long place) {
            return (int) (place - FIRST_CODE) / (SIDES * SIDES);
        }

        private static int lowSide(long place) {
            return (int) (place - FIRST_CODE) / SIDES % SIDES;
        }

        private static int highSide(long place) {
            return (int) (place - FIRST_CODE) % SIDES;
        }
    }

    /**
     * The places of an act in the order in which they are come to, and the least machine of them.
     * Kinds of places are numbered by the first place of each: so the states made of the kinds
     * stand in the order in which they are come to, too.
     */
    private static final class Places {
        private final int letters;
        private final long[] found = new long[MOST_PLACES];
        private final int[] leads = new int[MOST_PLACES * MOST_LETTERS];
        private final boolean[] last = new boolean[MOST_PLACES];
        private final int[] kinds = new int[MOST_PLACES];
        private final int[] finer = new int[MOST_PLACES];
        private final int[] marks = new int[MOST_STATES];
        private int size = 0;

        Places(int letters) {
            this.letters = letters;
        }

        /** Whether there are no more than 200 places by the rule. */
        boolean explore(Rule rule) {
            found[0] = rule.first();
            size = 1;
            for (int p = 0; p < size && p < MOST_PLACES; p++) {
                last[p] = rule.isLast(found[p]);
                for (int letter = 0; letter < letters; letter++) {
                    int to = numberOf(rule.after(found[p], letter));
                    if (to == NONE) {
                        return false;
                    }
                    leads[p * MOST_LETTERS + letter] = to;
                }
            }
            return true;
        }

        private int numberOf(long place) {
            for (int p = 0; p < size; p++) {
                if (found[p] == place) {
                    return p;
                }
            }
            if (size >= MOST_PLACES) {
                return NONE;
            }
            found[size] = place;
            size++;
            return size - 1;
        }

        /** The states of a machine as they are, with other ends. */
        void take(Machine source, long ends) {
            size = source.size;
            for (int p = 0; p < size; p++) {
                last[p] = isIn(ends, p);
                for (int letter = 0; letter < letters; letter++) {
                    leads[p * MOST_LETTERS + letter] = source.step(p, letter);
                }
            }
        }

        /** Whether the least machine has no more than 40 states; only then it is laid down. */
        boolean shrinkTo(Machine least) {
            splitByEnd();
            int known = 0;
            for (int round = 0; round <= MOST_STATES; round++) {
                int now = splitByLeads();
                if (now == NONE) {
                    return false;
                }
                if (now == known) {
                    break;
                }
                known = now;
            }
            layDown(least, known);
            return true;
        }

        private void splitByEnd() {
            for (int p = 0; p < size; p++) {
                kinds[p] = last[p] ? 1 : 0;
            }
        }

        /** How many kinds there are then; NONE, if they are too many. */
        private int splitByLeads() {
            int known = 0;
            for (int p = 0; p < size; p++) {
                int mark = markOf(p);
                int kind = 0;
                while (kind < known && marks[kind] != mark) {
                    kind++;
                }
                if (kind >= MOST_STATES) {
                    return NONE;
                }
                marks[kind] = mark;
                finer[p] = kind;
                known = Math.max(known, kind + 1);
            }
            System.arraycopy(finer, 0, kinds, 0, size);
            return known;
        }

        /** A place's kind and those to which letters lead, in one number: 5 times 6 bits. */
        private int markOf(int p) {
            int mark = kinds[p];
            for (int letter = 0; letter < letters; letter++) {
                mark = mark << STATE_BITS | kindAfter(p, letter);
            }
            return mark;
        }

        private int kindAfter(int p, int letter) {
            int to = leads[p * MOST_LETTERS + letter];
            return to >= 0 && to < size ? kinds[to] : 0;
        }

        private void layDown(Machine least, int states) {
            least.begin(states);
            long ends = 0L;
            int state = 0;
            for (int p = 0; p < size; p++) {
                if (kinds[p] == state) {
                    ends |= last[p] ? 1L << state : 0L;
                    for (int letter = 0; letter < letters; letter++) {
                        least.setStep(state, letter, kindAfter(p, letter));
                    }
                    state++;
                }
            }
            least.setEnds(ends);
        }
    }

    /** Walks through two machines at once, by texts in THE ORDER. */
    private static final class Comparison {
        private static final int PAIRS = MOST_STATES * MOST_STATES;
        private static final int UNSEEN = -1, START = -2;

        private final int letters;
        private final int[] queue = new int[PAIRS];
        private final int[] cameBy = new int[PAIRS];
        private int queued = 0;

        Comparison(int letters) {
            this.letters = letters;
        }

        /** The first pair of states that is wanted; NONE, if there is none. */
        int search(int how, Machine a, Machine b) {
            for (int i = 0; i < PAIRS; i++) {
                cameBy[i] = UNSEEN;
            }
            queued = 0;
            enqueue(0, START);
            for (int i = 0; i < queued && i < PAIRS; i++) {
                int inA = queue[i] / MOST_STATES;
                int inB = queue[i] % MOST_STATES;
                if (isWanted(how, a.isEnd(inA), b.isEnd(inB))) {
                    return queue[i];
                }
                for (int letter = 0; letter < letters; letter++) {
                    int to = a.step(inA, letter) * MOST_STATES + b.step(inB, letter);
                    enqueue(to, queue[i] * MOST_LETTERS + letter);
                }
            }
            return NONE;
        }

        private void enqueue(int pair, int by) {
            if (pair >= 0 && pair < PAIRS && queued < PAIRS && cameBy[pair] == UNSEEN) {
                cameBy[pair] = by;
                queue[queued] = pair;
                queued++;
            }
        }

        /** The letters by which the search came to a pair: fewer than the states of both. */
        void tellWay(int pair, Row text) {
            text.shortenTo(0);
            int at = pair;
            for (int i = 0; i < MOST_IN_TEXT; i++) {
                int by = at >= 0 && at < PAIRS ? cameBy[at] : START;
                if (by < 0) {
                    break;
                }
                text.append(by % MOST_LETTERS);
                at = by / MOST_LETTERS;
            }
            text.turnAround();
        }
    }

    /** How many texts of each length lead from each state to an end. */
    private static final class Tally {
        private final int letters;
        private final long[] ways = new long[(MOST_IN_TEXT + 1) * MOST_STATES];

        Tally(int letters) {
            this.letters = letters;
        }

        /** How many texts of n letters, 0 .. 100, are in the machine. */
        long waysOf(Machine a, int n) {
            for (int length = 0; length <= n && length <= MOST_IN_TEXT; length++) {
                countTexts(a, length);
            }
            return waysFrom(0, n);
        }

        /** Tells the text ahead of which so many stand, if it has 100 letters at most. */
        boolean tellText(Machine a, int ahead, Row text) {
            long rest = ahead;
            for (int length = 0; length <= MOST_IN_TEXT; length++) {
                countTexts(a, length);
                long here = waysFrom(0, length);
                if (rest < here) {
                    spell(a, length, rest, text);
                    return true;
                }
                rest -= here;
            }
            return false;
        }

        private void spell(Machine a, int length, long ahead, Row text) {
            text.shortenTo(0);
            int state = 0;
            long rest = ahead;
            for (int left = length - 1; left >= 0; left--) {
                int letter = 0;
                long here = waysFrom(a.step(state, letter), left);
                while (letter < letters - 1 && rest >= here) {
                    rest -= here;
                    letter++;
                    here = waysFrom(a.step(state, letter), left);
                }
                text.append(letter);
                state = a.step(state, letter);
            }
        }

        /** Lays down the counts of a length; those of the length below it stand already. */
        private void countTexts(Machine a, int length) {
            for (int state = 0; state < a.size; state++) {
                long sum = length == 0 && a.isEnd(state) ? 1L : 0L;
                for (int letter = 0; letter < letters; letter++) {
                    sum += waysFrom(a.step(state, letter), length - 1);
                }
                setWays(state, length, Math.min(sum, HIGHEST_COUNT));
            }
        }

        private long waysFrom(int state, int length) {
            return isEntry(state, length) ? ways[length * MOST_STATES + state] : 0L;
        }

        private void setWays(int state, int length, long number) {
            if (isEntry(state, length)) {
                ways[length * MOST_STATES + state] = number;
            }
        }

        private static boolean isEntry(int state, int length) {
            return state >= 0 && state < MOST_STATES && length >= 0 && length <= MOST_IN_TEXT;
        }
    }
}
