import java.util.ArrayList;
import java.util.List;

/**
 * What each act is to mean, text by text: whether a text is in what was made is asked of the
 * texts of the machines that it was made of, for all short texts. No places, no sets of states.
 */
public final class MeaningTest {
    private final TextMachines x;
    private final int k;
    private final int longest;
    private final Dice dice;
    private final List<String> texts = new ArrayList<>();

    private MeaningTest(int letters, int seed) {
        x = new TextMachines(letters);
        k = letters;
        longest = letters == 2 ? 6 : 4;
        dice = new Dice(seed);
        texts.add("");
        for (int i = 0; i < texts.size(); i++) {
            for (int l = 0; l < k && texts.get(i).length() < longest; l++) {
                texts.add(texts.get(i) + l);
            }
        }
    }

    public static void main(String[] args) {
        for (int seed = 0; seed < 60; seed++) {
            new MeaningTest(2 + seed % 3, seed).play();
        }
        Check.finish();
    }

    private interface Meaning {
        boolean has(String text);
    }

    private void play() {
        int a = thrown();
        int b = thrown();
        pairs(a, b);
        changes(a);
        cuts(a);
        parts(a);
        conditions(a);
        asks(a, b);
    }

    /** A machine of a few short texts, some of them again and again. */
    private int thrown() {
        int a = x.make(2);
        for (int i = 0; i < 3; i++) {
            collect(texts.get(dice.below(Math.min(40, texts.size()))));
            int one = x.make(0);
            a = dice.oneIn(3) ? x.join(a, x.many(one)) : x.pair(1, a, one);
        }
        a = dice.oneIn(4) ? x.many(a) : a;
        return dice.oneIn(5) ? x.not(a) : a;
    }

    private void collect(String text) {
        x.wipe();
        for (char c : text.toCharArray()) {
            x.add(c - '0');
        }
    }

    private boolean in(int a, String text) {
        int s = 0;
        for (char c : text.toCharArray()) {
            s = x.next(a, s, c - '0');
        }
        return x.end(a, s) == 1;
    }

    private void means(String act, int made, Meaning meaning) {
        meansUpTo(longest, act, made, meaning);
    }

    private void meansUpTo(int length, String act, int made, Meaning meaning) {
        if (made < 0) {
            Check.holds(act + " is LARGE or FULL", made == TextMachines.LARGE || made == TextMachines.FULL);
            return;
        }
        for (String text : texts) {
            if (text.length() <= length) {
                Check.due(act + ": '" + text + "' in " + made, in(made, text) ? 1 : 0, meaning.has(text) ? 1 : 0);
            }
        }
    }

    private void pairs(int a, int b) {
        means("both", x.pair(0, a, b), t -> in(a, t) && in(b, t));
        means("either", x.pair(1, a, b), t -> in(a, t) || in(b, t));
        means("a alone", x.pair(2, a, b), t -> in(a, t) && !in(b, t));
        means("just one", x.pair(3, a, b), t -> in(a, t) != in(b, t));
        means("not", x.not(a), t -> !in(a, t));
        means("join", x.join(a, b), t -> {
            for (int i = 0; i <= t.length(); i++) {
                if (in(a, t.substring(0, i)) && in(b, t.substring(i))) {
                    return true;
                }
            }
            return false;
        });
        means("many", x.many(a), t -> isRow(a, t));
    }

    private boolean isRow(int a, String text) {
        if (text.isEmpty()) {
            return true;
        }
        for (int i = 1; i <= text.length(); i++) {
            if (in(a, text.substring(0, i)) && isRow(a, text.substring(i))) {
                return true;
            }
        }
        return false;
    }

    private void changes(int a) {
        means("turn", x.turn(a), t -> in(a, new StringBuilder(t).reverse().toString()));
        int from = dice.below(k);
        int to = dice.below(k);
        means("become " + from + " " + to, x.become(a, from, to), t -> cameFrom(a, "", t, from, to));
        means("drop " + from, x.drop(a, from), t -> t.indexOf('0' + from) < 0 && withMore(a, t, from));
    }

    private boolean cameFrom(int a, String done, String rest, int from, int to) {
        if (rest.isEmpty()) {
            return in(a, done);
        }
        int letter = rest.charAt(0) - '0';
        String behind = rest.substring(1);
        if (letter == to && cameFrom(a, done + from, behind, from, to)) {
            return true;
        }
        return (letter != from || from == to) && cameFrom(a, done + letter, behind, from, to);
    }

    /** Whether letters more, anywhere between those of a text, lead to an end: walked by states. */
    private boolean withMore(int a, String text, int letter) {
        boolean[] at = new boolean[x.states(a)];
        at[0] = true;
        spread(a, at, letter);
        for (char c : text.toCharArray()) {
            boolean[] then = new boolean[at.length];
            for (int s = 0; s < at.length; s++) {
                if (at[s]) {
                    then[x.next(a, s, c - '0')] = true;
                }
            }
            at = then;
            spread(a, at, letter);
        }
        for (int s = 0; s < at.length; s++) {
            if (at[s] && x.end(a, s) == 1) {
                return true;
            }
        }
        return false;
    }

    private void spread(int a, boolean[] at, int letter) {
        for (int round = 0; round < at.length; round++) {
            for (int s = 0; s < at.length; s++) {
                if (at[s]) {
                    at[x.next(a, s, letter)] = true;
                }
            }
        }
    }

    private void cuts(int a) {
        for (int n = 0; n <= 3; n++) {
            int length = n;
            means("cut " + n, x.cut(a, n), t -> anyOf(length, more -> in(a, more + t)));
            means("trim " + n, x.trim(a, n), t -> anyOf(length, more -> in(a, t + more)));
        }
    }

    private boolean anyOf(int length, Meaning meaning) {
        for (String text : texts) {
            if (text.length() == length && meaning.has(text)) {
                return true;
            }
        }
        return false;
    }

    /** Short texts more do for machines of few states alone. */
    private void parts(int a) {
        if (x.states(a) > longest + 1) {
            return;
        }
        means("beginnings", x.part(a, 0), t -> any(more -> in(a, t + more)));
        means("ends", x.part(a, 1), t -> any(more -> in(a, more + t)));
        meansUpTo(2, "anywhere", x.part(a, 2), t -> any(more -> any(behind -> in(a, more + t + behind))));
    }

    private boolean any(Meaning meaning) {
        for (String text : texts) {
            if (meaning.has(text)) {
                return true;
            }
        }
        return false;
    }

    private void conditions(int a) {
        String part = texts.get(dice.below(Math.min(30, texts.size())));
        collect(part);
        for (int yes = 0; yes < 2; yes++) {
            boolean so = yes == 1;
            means("is " + part, x.when(0, a, so), t -> in(a, t) && t.equals(part) == so);
            means("begins " + part, x.when(1, a, so), t -> in(a, t) && t.startsWith(part) == so);
            means("ends " + part, x.when(2, a, so), t -> in(a, t) && t.endsWith(part) == so);
            means("contains " + part, x.when(3, a, so), t -> in(a, t) && t.contains(part) == so);
        }
        int low = dice.below(60);
        int high = low + dice.below(60);
        means("numerals " + low + " " + high, x.numerals(low, high), t -> {
            boolean written = !t.isEmpty() && (t.equals("0") || t.charAt(0) != '0');
            return written && Integer.parseInt(t, k) >= low && Integer.parseInt(t, k) <= high;
        });
    }

    private void asks(int a, int b) {
        int ahead = 0;
        int[] counts = new int[longest + 1];
        String first = null;
        for (String text : texts) {
            collect(text);
            Check.due("has " + text, x.has(a), in(a, text) ? 1 : 0);
            if (in(a, text)) {
                counts[text.length()]++;
                Check.due("pick " + ahead, x.pick(a, ahead), text.length());
                Check.holds("told is " + text, toldIs(text));
                ahead++;
            }
            if (first == null && in(a, text) != in(b, text)) {
                first = text;
            }
        }
        for (int n = 0; n <= longest; n++) {
            Check.due("count " + n, x.count(a, n), counts[n]);
        }
        if (first != null) {
            Check.due("differ", x.differ(a, b), first.length());
            Check.holds("told is " + first, toldIs(first));
        }
        Check.due("within", x.within(a, b), x.pair(2, a, b) == x.make(2) ? 1 : 0);
    }

    private boolean toldIs(String text) {
        for (int i = 0; i < text.length(); i++) {
            if (x.told(i) != text.charAt(i) - '0') {
                return false;
            }
        }
        return x.told(text.length()) == TextMachines.NONE;
    }
}
