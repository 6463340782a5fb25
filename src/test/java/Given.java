/** What tests begin with: texts, machines and objects in a certain state. */
final class Given {
    private static final int MOST_MACHINES = 60;

    private Given() {
    }

    /** COLLECTED becomes the text, written in digits. */
    static void collect(TextMachines x, String text) {
        x.wipe();
        for (char c : text.toCharArray()) {
            x.add(c - '0');
        }
    }

    /** The machine of one text; COLLECTED is that text then. */
    static int one(TextMachines x, String text) {
        collect(x, text);
        return x.make(0);
    }

    /** The machine of some texts; COLLECTED is the last of them then. */
    static int some(TextMachines x, String... texts) {
        int a = x.make(2);
        for (String text : texts) {
            a = x.pair(1, a, one(x, text));
        }
        return a;
    }

    /** The machine of all rows of so many letters 0 and 1. */
    static int rows(TextMachines x, int length) {
        int letter = x.pair(1, one(x, "0"), one(x, "1"));
        int rows = letter;
        for (int i = 1; i < length; i++) {
            rows = x.join(rows, letter);
        }
        return rows;
    }

    /** The machine of all rows of letters 0 and 1 whose lengths divide by n. */
    static int ring(TextMachines x, int n) {
        return x.many(rows(x, n));
    }

    static String toldText(TextMachines x) {
        StringBuilder text = new StringBuilder();
        int letter = x.told(0);
        for (int i = 1; letter != TextMachines.NONE; i++) {
            text.append(letter);
            letter = x.told(i);
        }
        return text.toString();
    }

    /** Fills up to 60 machines with those of single numerals, 1000 and above. */
    static void fillShelf(TextMachines x) {
        fillShelf(x, MOST_MACHINES);
    }

    static void fillShelf(TextMachines x, int machines) {
        int there = x.of(0);
        for (int i = 1000; there < machines; i++) {
            there += x.numerals(i, i) == there ? 1 : 0;
        }
    }

    /** Three machines, of which 1 is that of COLLECTED, 01, alone; 01 is told, too; CAME is 6. */
    static TextMachines busy(int letters) {
        TextMachines x = new TextMachines(letters);
        x.make(1);
        int a = one(x, "01");
        x.pick(a, 0);
        x.many(a);
        return x;
    }

    /** As busy, with 60 machines, 100 letters in COLLECTED and a CAME that is not 0. */
    static TextMachines full(int letters) {
        TextMachines x = busy(letters);
        for (int i = x.of(1); i < 100; i++) {
            x.add(i % 2);
        }
        fillShelf(x);
        x.many(1);
        return x;
    }

    /** What can be asked but CAME; of the steps only those of small machines ahead, to save calls. */
    static String state(TextMachines x) {
        int machines = x.of(0);
        StringBuilder all = new StringBuilder(machines + " " + x.of(1) + " " + x.of(3) + " " + toldText(x) + ".");
        for (int a = 0; a < machines; a++) {
            int states = x.states(a);
            all.append(' ').append(states).append(x.has(a));
            for (int s = 0; a < 4 && states <= 4 && s < states; s++) {
                all.append(',').append(x.end(a, s)).append(x.next(a, s, 0)).append(x.next(a, s, 1));
            }
        }
        return all.toString();
    }
}
