import static java.lang.Integer.MAX_VALUE;
import static java.lang.Integer.MIN_VALUE;

/** Each promise of the document by itself: ordinary inputs, the edges it names, wrong inputs. */
public final class PromisesTest {
    private static final int NONE = TextMachines.NONE, BAD = TextMachines.BAD, FULL = TextMachines.FULL,
        LARGE = TextMachines.LARGE, ENDLESS = TextMachines.ENDLESS;

    private PromisesTest() {
    }

    public static void main(String[] args) {
        p1NewObject();
        p2Clear();
        p3Add();
        p4Wipe();
        p5Make();
        p6Pair();
        p7Not();
        p8Join();
        p9Many();
        p10Turn();
        p11Become();
        p12Drop();
        p13Cut();
        p14Trim();
        p15Part();
        p16Widen();
        p17When();
        p18Numerals();
        p19States();
        p20Next();
        p21End();
        p22Has();
        p23Within();
        p24Differ();
        p25Count();
        p26Pick();
        p27Told();
        p28Longest();
        p29Of();
        termsNumbering();
        termsSame();
        termsMostStates();
        termsFullShelf();
        termsLargeBeforeFull();
        termsRefusalsChangeNothing();
        Check.finish();
    }

    private static void due(String call, long got, long want) {
        Check.due(call, got, want);
    }

    /** The first texts of a machine in THE ORDER, up to ten: "," alone is the text without letters. */
    private static String texts(TextMachines x, int a) {
        StringBuilder all = new StringBuilder();
        for (int i = 0; i < 10 && x.pick(a, i) >= 0; i++) {
            all.append(Given.toldText(x)).append(',');
        }
        return all.toString();
    }

    private static void dueTexts(String what, TextMachines x, int a, String want) {
        String got = texts(x, a);
        Check.holds(what + " has " + got + ", due is " + want, got.equals(want));
    }

    private static void p1NewObject() {
        int[][] lettersDue = {{2, 2}, {3, 3}, {4, 4}, {1, 2}, {0, 2}, {-7, 2}, {5, 4}, {MIN_VALUE, 2}, {MAX_VALUE, 4}};
        for (int[] row : lettersDue) {
            TextMachines x = new TextMachines(row[0]);
            due("new(" + row[0] + ") of(3)", x.of(3), row[1]);
            due("new of(0)", x.of(0), 0);
            due("new of(1)", x.of(1), 0);
            due("new of(2)", x.of(2), 0);
            due("new told(0)", x.told(0), NONE);
            due("add of the last letter", x.add(row[1] - 1), 1);
            due("add of one more", x.add(row[1]), BAD);
            due("make(1)", x.make(1), 0);
            due("count of all texts of one letter", x.count(0, 1), row[1]);
        }
    }

    private static void p2Clear() {
        TextMachines x = new TextMachines(3);
        due("clear of nothing", x.clear(), 0);
        int a = Given.one(x, "01");
        x.many(a);
        x.pick(a, 0);
        Check.holds("CAME is there before clear", x.of(2) > 0);
        due("told(1) before clear", x.told(1), 1);
        due("clear()", x.clear(), 2);
        due("of(0) after clear", x.of(0), 0);
        due("of(1) after clear", x.of(1), 0);
        due("of(2) after clear", x.of(2), 0);
        due("of(3) after clear", x.of(3), 3);
        due("told(0) after clear", x.told(0), NONE);
        due("states(0) after clear", x.states(0), BAD);
        due("make(1) after clear", x.make(1), 0);
        due("states(0)", x.states(0), 1);
        due("clear() again", x.clear(), 1);
    }

    private static void p3Add() {
        TextMachines x = new TextMachines(2);
        due("add(-1)", x.add(-1), BAD);
        due("add(2)", x.add(2), BAD);
        due("add(min)", x.add(MIN_VALUE), BAD);
        for (int i = 1; i <= 100; i++) {
            due("add " + i, x.add(i % 2), i);
        }
        due("add to 100", x.add(0), FULL);
        due("add(2) to 100: BAD first", x.add(2), BAD);
        due("of(1)", x.of(1), 100);
        due("make(1)", x.make(1), 0);
        due("has of 100 letters", x.has(0), 1);
    }

    private static void p4Wipe() {
        TextMachines x = new TextMachines(2);
        due("wipe of nothing", x.wipe(), 0);
        Given.collect(x, "0110");
        due("wipe()", x.wipe(), 4);
        due("of(1)", x.of(1), 0);
        due("wipe again", x.wipe(), 0);
        due("add behind", x.add(1), 1);
        due("make(0)", x.make(0), 0);
        dueTexts("COLLECTED alone", x, 0, "1,");
    }

    private static void p5Make() {
        TextMachines x = new TextMachines(2);
        due("make(-1)", x.make(-1), BAD);
        due("make(3)", x.make(3), BAD);
        due("make(0) of no letters", x.make(0), 0);
        due("states", x.states(0), 2);
        dueTexts("the text without letters", x, 0, ",");
        due("make(1)", x.make(1), 1);
        due("make(2)", x.make(2), 2);
        dueTexts("all texts", x, 1, ",0,1,00,01,10,11,000,001,010,");
        dueTexts("none", x, 2, "");
        due("make(1) again", x.make(1), 1);
        due("make(2) again", x.make(2), 2);
        due("make(0) again", x.make(0), 0);
        Given.collect(x, "01010101010101010101010101010101010101");
        due("of(1)", x.of(1), 38);
        due("make(0) of 38 letters", x.make(0), 3);
        due("states of 38 letters", x.states(3), 40);
        due("COLLECTED stays", x.of(1), 38);
        x.many(0);
        Check.holds("CAME before", x.of(2) > 0);
        x.add(0);
        due("make(0) of 39 letters", x.make(0), LARGE);
        due("of(2): make has no places", x.of(2), 0);
        due("of(0)", x.of(0), 4);
        for (int i = 39; i < 100; i++) {
            x.add(1);
        }
        due("make(0) of 100 letters", x.make(0), LARGE);
    }

    private static void p6Pair() {
        TextMachines x = new TextMachines(2);
        int a = Given.some(x, "0", "01", "11");
        int b = Given.some(x, "01", "11", "110", "");
        dueTexts("both", x, x.pair(0, a, b), "01,11,");
        dueTexts("one at least", x, x.pair(1, a, b), ",0,01,11,110,");
        dueTexts("a and not b", x, x.pair(2, a, b), "0,");
        dueTexts("b and not a", x, x.pair(2, b, a), ",110,");
        dueTexts("just one", x, x.pair(3, a, b), ",0,110,");
        due("with itself", x.pair(0, a, a), a);
        due("CAME of a with itself", x.of(2), x.states(a));
        due("how -1", x.pair(-1, a, b), BAD);
        due("how 4", x.pair(4, a, b), BAD);
        due("no a", x.pair(0, x.of(0), b), BAD);
        due("no b", x.pair(0, a, x.of(0)), BAD);
        due("a -1", x.pair(0, -1, b), BAD);
        due("b -1", x.pair(0, a, -1), BAD);
        due("CAME after BAD", x.of(2), x.states(a));
        // lengths that divide by 13 and by 14: 182 places; by 14 and by 15: 210
        TextMachines y = new TextMachines(2);
        int ring13 = Given.ring(y, 13);
        int ring14 = Given.ring(y, 14);
        int ring15 = Given.ring(y, 15);
        due("states of 13", y.states(ring13), 13);
        int before = y.of(0);
        due("182 places, as many states", y.pair(0, ring13, ring14), LARGE);
        due("CAME", y.of(2), 182);
        due("210 places", y.pair(0, ring14, ring15), LARGE);
        due("CAME is 201", y.of(2), 201);
        due("nothing came", y.of(0), before);
        pairLimits();
    }

    /** 200 places and 201, 40 states and 41. */
    private static void pairLimits() {
        TextMachines x = new TextMachines(2);
        int ring40 = x.pair(0, Given.ring(x, 5), Given.ring(x, 8));
        due("40 places", x.of(2), 40);
        due("40 states", x.states(ring40), 40);
        int empty = Given.one(x, "");
        due("41 states", x.pair(2, ring40, empty), LARGE);
        due("41 places", x.of(2), 41);
        int ring25 = Given.ring(x, 25);
        // lengths 40, 80, .. and 1, 26, ..: none has both, as they leave 0 and 1 by 5
        due("200 places", x.pair(0, ring40, x.cut(ring25, 24)), x.make(2));
        x.pair(0, ring40, x.cut(ring25, 24));
        due("CAME", x.of(2), 200);
        // lengths 1, 41, .. and 25, 50, .. but not 0: none again
        due("201 places", x.pair(0, x.cut(ring40, 39), x.pair(2, ring25, empty)), LARGE);
        due("CAME", x.of(2), 201);
    }

    private static void p7Not() {
        TextMachines x = new TextMachines(2);
        int a = Given.some(x, "", "1");
        x.many(a);
        int n = x.not(a);
        due("CAME of not", x.of(2), 0);
        dueTexts("others", x, n, "0,00,01,10,11,000,001,010,011,100,");
        due("not of not", x.not(n), a);
        due("not of all", x.not(x.make(1)), x.make(2));
        due("not(-1)", x.not(-1), BAD);
        due("not of none such", x.not(x.of(0)), BAD);
    }

    private static void p8Join() {
        TextMachines x = new TextMachines(2);
        int a = Given.some(x, "", "0", "01");
        int b = Given.some(x, "1", "11");
        dueTexts("joined", x, x.join(a, b), "1,01,11,011,0111,");
        int none = x.make(2);
        int empty = Given.one(x, "");
        due("with none", x.join(a, none), none);
        due("none with a", x.join(none, a), none);
        due("with the text without letters", x.join(a, empty), a);
        due("the other way", x.join(empty, a), a);
        due("join(-1, b)", x.join(-1, b), BAD);
        due("join(a, none such)", x.join(a, x.of(0)), BAD);
        // states of "": 0 an end, 1 not; the same of b. Places: (0,{0}), (1,{1}).
        due("join of no letters", x.join(empty, empty), empty);
        due("CAME", x.of(2), 2);
        // none: one state, no end: (0,{}) alone
        x.join(none, a);
        due("CAME of none with a", x.of(2), 1);
        TextMachines y = new TextMachines(2);
        int letter = y.pair(1, Given.one(y, "0"), Given.one(y, "1"));
        int seventh = y.join(y.make(1), Given.one(y, "0"));
        for (int i = 0; i < 4; i++) {
            seventh = y.join(seventh, letter);
        }
        due("the fifth from the end", y.states(seventh), 32);
        due("the sixth", y.join(seventh, letter), LARGE);
        due("CAME", y.of(2), 128);
        int deep = y.join(seventh, y.part(seventh, 0));
        due("join of all that may follow", deep, y.join(seventh, y.make(1)));
    }

    private static void p9Many() {
        TextMachines x = new TextMachines(2);
        int a = Given.one(x, "01");
        int m = x.many(a);
        due("CAME", x.of(2), 6);
        dueTexts("many of 01", x, m, ",01,0101,010101,01010101,0101010101,010101010101,"
            + "01010101010101,0101010101010101,010101010101010101,");
        due("many of many", x.many(m), m);
        int none = x.make(2);
        int empty = Given.one(x, "");
        due("many of none", x.many(none), empty);
        due("CAME: the beginning and {0}", x.of(2), 2);
        due("many of the text without letters", x.many(empty), empty);
        due("CAME: the beginning and {1}", x.of(2), 2);
        due("many of all", x.many(x.make(1)), x.make(1));
        int both = Given.some(x, "0", "11");
        dueTexts("many of two", x, x.many(both), ",0,00,11,000,011,110,0000,0011,0110,");
        due("many(-1)", x.many(-1), BAD);
        due("many of none such", x.many(x.of(0)), BAD);
    }

    private static void p10Turn() {
        TextMachines x = new TextMachines(3);
        int a = Given.some(x, "", "012", "20");
        int t = x.turn(a);
        dueTexts("turned", x, t, ",02,210,");
        due("turned twice", x.turn(t), a);
        int none = x.make(2);
        due("turn of none", x.turn(none), none);
        due("CAME: the set of no states", x.of(2), 1);
        int all = x.make(1);
        due("turn of all", x.turn(all), all);
        due("CAME: {0}", x.of(2), 1);
        // "0" over 3 letters: 0 -0-> 1, else 2. Sets: {1}, by 0 {0}, by 1 {}; from {0} and {} all to {}
        int zero = Given.one(x, "0");
        due("turn of one letter", x.turn(zero), zero);
        due("CAME: {1}, {0}, {}", x.of(2), 3);
        due("turn(-1)", x.turn(-1), BAD);
        due("turn of none such", x.turn(x.of(0)), BAD);
        TextMachines y = new TextMachines(2);
        int letter = y.pair(1, Given.one(y, "0"), Given.one(y, "1"));
        int late = y.join(Given.one(y, "0"), y.make(1));
        for (int i = 0; i < 6; i++) {
            late = y.join(letter, late);
        }
        due("turn to 128 states", y.turn(late), LARGE);
        due("CAME", y.of(2), 128);
        late = y.join(letter, late);
        due("turn to 256 states", y.turn(late), LARGE);
        due("CAME is 201", y.of(2), 201);
    }

    private static void p11Become() {
        TextMachines x = new TextMachines(3);
        int a = Given.some(x, "012", "11", "2");
        dueTexts("1 becomes 0", x, x.become(a, 1, 0), "2,00,002,");
        dueTexts("0 becomes 2", x, x.become(a, 0, 2), "2,11,212,");
        due("1 becomes 1", x.become(a, 1, 1), a);
        due("CAME: each state by itself", x.of(2), x.states(a));
        // "1": 0 -1-> 1, else 2. {0}, by 0 {1, 2}, by 1 {}, by 2 {2}
        int one = Given.one(x, "1");
        due("1 becomes 0", x.become(one, 1, 0), Given.one(x, "0"));
        x.become(one, 1, 0);
        due("CAME", x.of(2), 4);
        due("bad a", x.become(x.of(0), 0, 1), BAD);
        due("bad x", x.become(a, -1, 1), BAD);
        due("bad x", x.become(a, 3, 1), BAD);
        due("bad y", x.become(a, 0, 3), BAD);
        due("bad y", x.become(a, 0, -1), BAD);
        due("CAME stays", x.of(2), 4);
    }

    private static void p12Drop() {
        TextMachines x = new TextMachines(3);
        int a = Given.some(x, "012", "11", "0110");
        dueTexts("without 1", x, x.drop(a, 1), ",00,02,");
        dueTexts("without 0", x, x.drop(a, 0), "11,12,");
        int many = x.many(Given.one(x, "01"));
        dueTexts("many 01 without 0", x, x.drop(many, 0), ",1,11,111,1111,11111,111111,1111111,11111111,111111111,");
        due("all without 2", x.drop(x.make(1), 2), x.many(Given.some(x, "0", "1")));
        x.drop(x.make(1), 2);
        due("CAME: {0} and {}", x.of(2), 2);
        due("bad a", x.drop(-1, 0), BAD);
        due("bad x", x.drop(a, 3), BAD);
        due("bad x", x.drop(a, -1), BAD);
    }

    private static void p13Cut() {
        TextMachines x = new TextMachines(2);
        int a = Given.some(x, "", "0", "011", "1100");
        due("cut(a, 0)", x.cut(a, 0), a);
        dueTexts("cut 1", x, x.cut(a, 1), ",11,100,");
        dueTexts("cut 2", x, x.cut(a, 2), "1,00,");
        dueTexts("cut 4", x, x.cut(a, 4), ",");
        due("cut 5", x.cut(a, 5), x.make(2));
        due("cut 100", x.cut(a, 100), x.make(2));
        x.cut(a, 100);
        due("CAME: the one set", x.of(2), 1);
        int even = x.many(x.join(Given.some(x, "0", "1"), Given.some(x, "0", "1")));
        due("cut 100 of even", x.cut(even, 100), even);
        due("cut 99 of even", x.cut(even, 99), x.not(even));
        due("cut -1", x.cut(a, -1), BAD);
        due("cut 101", x.cut(a, 101), BAD);
        due("bad a", x.cut(x.of(0), 1), BAD);
    }

    private static void p14Trim() {
        TextMachines x = new TextMachines(2);
        int a = Given.some(x, "", "0", "011", "1100");
        x.many(a);
        due("trim(a, 0)", x.trim(a, 0), a);
        due("CAME of trim", x.of(2), 0);
        dueTexts("trim 1", x, x.trim(a, 1), ",01,110,");
        dueTexts("trim 2", x, x.trim(a, 2), "0,11,");
        dueTexts("trim 4", x, x.trim(a, 4), ",");
        due("trim 5", x.trim(a, 5), x.make(2));
        int even = x.many(x.join(Given.some(x, "0", "1"), Given.some(x, "0", "1")));
        due("trim 100 of even", x.trim(even, 100), even);
        due("trim 99 of even", x.trim(even, 99), x.not(even));
        due("trim -1", x.trim(a, -1), BAD);
        due("trim 101", x.trim(a, 101), BAD);
        due("bad a", x.trim(-1, 1), BAD);
    }

    private static void p15Part() {
        TextMachines x = new TextMachines(2);
        int a = Given.some(x, "011", "10");
        x.many(a);
        dueTexts("beginnings", x, x.part(a, 0), ",0,1,01,10,011,");
        x.many(a);
        x.part(a, 0);
        due("CAME of beginnings", x.of(2), 0);
        dueTexts("ends", x, x.part(a, 1), ",0,1,10,11,011,");
        dueTexts("anywhere", x, x.part(a, 2), ",0,1,01,10,11,011,");
        int none = x.make(2);
        for (int how = 0; how <= 2; how++) {
            due("part of none", x.part(none, how), none);
            due("CAME", x.of(2), how == 0 ? 0 : 1);
        }
        // "0": 0 -0-> 1, else 2. {0,1,2}, by 0 {1,2}, by 1 {2}
        int zero = Given.one(x, "0");
        x.part(zero, 1);
        due("CAME of ends of 0", x.of(2), 3);
        x.part(zero, 2);
        due("CAME of parts of 0", x.of(2), 3);
        due("how -1", x.part(a, -1), BAD);
        due("how 3", x.part(a, 3), BAD);
        due("bad a", x.part(x.of(0), 0), BAD);
    }

    private static void p16Widen() {
        TextMachines x = new TextMachines(2);
        // 000: states 0 .. 3 along it, 4 behind; ends: 3 alone
        int a = Given.one(x, "000");
        int all = x.make(1);
        // d 0: all but 3 are like: {0,1,2,s} leads by 0 to all, by 1 to {0,1,2,s}
        int w0 = x.widen(a, 0);
        due("CAME of d 0", x.of(2), 2);
        due("d 0: texts that end with 0", w0, endsWith(x, all, "0"));
        due("d 1", x.widen(a, 1), x.join(x.many(Given.some(x, "0", "1")), Given.one(x, "00")));
        due("d 3 is a itself", x.widen(a, 3), a);
        due("d 40 is a itself", x.widen(a, 40), a);
        due("CAME: each state by itself", x.of(2), x.states(a));
        due("widen of all", x.widen(all, 0), all);
        due("d -1", x.widen(a, -1), BAD);
        due("d 41", x.widen(a, 41), BAD);
        due("bad a", x.widen(-1, 0), BAD);
    }

    private static int endsWith(TextMachines x, int a, String text) {
        Given.collect(x, text);
        return x.when(2, a, true);
    }

    private static void p17When() {
        TextMachines x = new TextMachines(2);
        int a = Given.some(x, "", "0", "01", "010", "101", "1");
        String[][] due = {{"01,", ",0,1,010,101,"}, {"01,010,", ",0,1,101,"}, {"01,101,", ",0,1,010,"},
            {"01,010,101,", ",0,1,"}};
        for (int op = 0; op <= 3; op++) {
            Given.collect(x, "01");
            dueTexts("when " + op, x, x.when(op, a, true), due[op][0]);
            dueTexts("when not " + op, x, x.when(op, a, false), due[op][1]);
        }
        due("COLLECTED stays", x.of(1), 2);
        x.wipe();
        due("is the text without letters", x.when(0, a, true), x.make(0));
        for (int op = 1; op <= 3; op++) {
            due("no letters stand in all, op " + op, x.when(op, a, true), a);
            due("CAME: the condition has one state", x.of(2), x.states(a));
            due("not so in none, op " + op, x.when(op, a, false), x.make(2));
        }
        due("op -1", x.when(-1, a, true), BAD);
        due("op 4", x.when(4, a, true), BAD);
        due("bad a", x.when(0, x.of(0), true), BAD);
        whenOverlaps();
        whenSizes();
    }

    /** Where a text that is met in part goes on within itself. */
    private static void whenOverlaps() {
        TextMachines x = new TextMachines(2);
        int all = x.make(1);
        String[] parts = {"0100", "00100", "0101001", "0000"};
        String[] in = {"010100", "00100100", "01010101001", "0010000"};
        String[] out = {"0101010", "001010010", "010100010", "0001000"};
        for (int i = 0; i < parts.length; i++) {
            Given.collect(x, parts[i]);
            int end = x.when(2, all, true);
            int any = x.when(3, all, true);
            due("COLLECTED alone, behind when", x.make(0), x.when(0, all, true));
            Given.collect(x, in[i]);
            due(in[i] + " ends with " + parts[i], x.has(end), 1);
            due(in[i] + " has " + parts[i], x.has(any), 1);
            x.add(1);
            due(in[i] + "1 ends with " + parts[i], x.has(end), 0);
            due(in[i] + "1 has " + parts[i], x.has(any), 1);
            Given.collect(x, out[i]);
            due(out[i] + " ends with " + parts[i], x.has(end), 0);
            due(out[i] + " has " + parts[i], x.has(any), 0);
        }
    }

    private static void whenSizes() {
        TextMachines x = new TextMachines(2);
        int all = x.make(1);
        Given.collect(x, "0000000000" + "0000000000" + "0000000000" + "00000000");
        int[] placesOf38 = {40, 40, 39, 39};
        for (int op = 0; op <= 3; op++) {
            Check.holds("38 letters, op " + op, x.when(op, all, true) >= 0);
            due("CAME of 38 letters, op " + op, x.of(2), placesOf38[op]);
        }
        x.add(0);
        for (int op = 0; op <= 1; op++) {
            x.turn(all);
            due("39 letters, op " + op, x.when(op, all, op == 0), LARGE);
            due("CAME", x.of(2), 0);
        }
        for (int op = 2; op <= 3; op++) {
            Check.holds("39 letters, op " + op, x.when(op, all, true) >= 0);
            due("CAME", x.of(2), 40);
        }
        x.add(0);
        for (int op = 0; op <= 3; op++) {
            x.turn(all);
            due("40 letters, op " + op, x.when(op, all, true), LARGE);
            due("CAME", x.of(2), 0);
        }
        TextMachines y = new TextMachines(2);
        int wide = y.not(Given.one(y, "01010101010101010101"));
        Given.collect(y, "1010101010101");
        int with = y.when(3, y.make(1), true);
        int want = y.pair(0, wide, with);
        int places = y.of(2);
        due("when as pair(0, ..)", y.when(3, wide, true), want);
        due("CAME as of pair(0, ..)", y.of(2), places);
        int without = y.pair(2, wide, with);
        due("when not as pair(2, ..)", y.when(3, wide, false), without);
        due("CAME of when not", y.of(2), places);
    }

    private static void p18Numerals() {
        TextMachines x = new TextMachines(2);
        x.many(x.make(1));
        dueTexts("0 .. 5", x, x.numerals(0, 5), "0,1,10,11,100,101,");
        x.many(0);
        x.numerals(0, 5);
        due("CAME of numerals", x.of(2), 0);
        dueTexts("3 .. 3", x, x.numerals(3, 3), "11,");
        dueTexts("0 .. 0", x, x.numerals(0, 0), "0,");
        dueTexts("1 .. 1", x, x.numerals(1, 1), "1,");
        dueTexts("highest", x, x.numerals(1000000000, 1000000000), "111011100110101100101000000000,");
        // along the digits of the bound and beside them: about twice 29 states
        due("536870912 .. 1000000000", x.numerals(536870912, 1000000000), LARGE);
        due("low -1", x.numerals(-1, 3), BAD);
        due("high 1000000001", x.numerals(0, 1000000001), BAD);
        due("low above high", x.numerals(4, 3), BAD);
        due("both beyond", x.numerals(1000000001, 1000000001), BAD);
        due("min", x.numerals(MIN_VALUE, MAX_VALUE), BAD);
        due("0 .. 1000000000", x.numerals(0, 1000000000), LARGE);
        due("CAME", x.of(2), 0);
        TextMachines y = new TextMachines(3);
        dueTexts("to the base 3", y, y.numerals(7, 11), "21,22,100,101,102,");
        // the first one, the dead one, 18 along the digits of the bound, 19 beside them
        due("states of 0 .. 1000000000 to the base 3", y.states(y.numerals(0, 1000000000)), 39);
        TextMachines z = new TextMachines(4);
        dueTexts("to the base 4", z, z.numerals(14, 17), "32,33,100,101,");
        int most = z.numerals(0, 1000000000);
        Check.holds("0 .. 1000000000 to the base 4", most >= 0);
        due("its longest", z.longest(most), 15);
        due("its count of 14", z.count(most, 14), 3L << 26);
        due("its count of 15", z.count(most, 15), 1000000001L - (1L << 28));
    }

    private static void p19States() {
        TextMachines x = new TextMachines(2);
        due("states(0) of none", x.states(0), BAD);
        due("states of all", x.states(x.make(1)), 1);
        due("states of none", x.states(x.make(2)), 1);
        due("states of 01", x.states(Given.one(x, "01")), 4);
        due("states(-1)", x.states(-1), BAD);
        due("states(3)", x.states(3), BAD);
        due("states(max)", x.states(MAX_VALUE), BAD);
    }

    private static void p20Next() {
        TextMachines x = new TextMachines(2);
        int a = Given.one(x, "10");
        // by 0 the dead state is come to first: 1; then 2 by 1, and 3 behind it
        int[][] due = {{1, 2}, {1, 1}, {3, 1}, {1, 1}};
        for (int s = 0; s < 4; s++) {
            for (int l = 0; l < 2; l++) {
                due("next(" + s + ", " + l + ")", x.next(a, s, l), due[s][l]);
            }
        }
        due("bad a", x.next(-1, 0, 0), BAD);
        due("bad a", x.next(1, 0, 0), BAD);
        due("bad state", x.next(a, -1, 0), BAD);
        due("bad state", x.next(a, 4, 0), BAD);
        due("bad letter", x.next(a, 0, -1), BAD);
        due("bad letter", x.next(a, 0, 2), BAD);
    }

    private static void p21End() {
        TextMachines x = new TextMachines(2);
        int a = Given.one(x, "10");
        int[] due = {0, 0, 0, 1};
        for (int s = 0; s < 4; s++) {
            due("end(" + s + ")", x.end(a, s), due[s]);
        }
        due("end of all", x.end(x.make(1), 0), 1);
        due("bad a", x.end(-1, 0), BAD);
        due("bad a", x.end(2, 0), BAD);
        due("bad state", x.end(a, -1), BAD);
        due("bad state", x.end(a, 4), BAD);
    }

    private static void p22Has() {
        TextMachines x = new TextMachines(3);
        due("has(0) of none", x.has(0), BAD);
        int a = Given.some(x, "021", "");
        String[] texts = {"", "0", "02", "021", "0210", "120"};
        int[] due = {1, 0, 0, 1, 0, 0};
        for (int i = 0; i < texts.length; i++) {
            Given.collect(x, texts[i]);
            due("has " + texts[i], x.has(a), due[i]);
        }
        due("COLLECTED stays", x.of(1), 3);
        due("has(-1)", x.has(-1), BAD);
        due("has of none such", x.has(x.of(0)), BAD);
    }

    private static void p23Within() {
        TextMachines x = new TextMachines(2);
        int a = Given.some(x, "0", "11");
        int b = Given.some(x, "0", "11", "10");
        int none = x.make(2);
        int all = x.make(1);
        due("a in b", x.within(a, b), 1);
        due("b in a", x.within(b, a), 0);
        due("a in a", x.within(a, a), 1);
        due("none in a", x.within(none, a), 1);
        due("a in none", x.within(a, none), 0);
        due("b in all", x.within(b, all), 1);
        due("all in b", x.within(all, b), 0);
        due("bad a", x.within(-1, a), BAD);
        due("bad b", x.within(a, x.of(0)), BAD);
    }

    private static void p24Differ() {
        TextMachines x = new TextMachines(2);
        int a = Given.some(x, "0", "11", "000");
        int b = Given.some(x, "0", "10", "01");
        due("differ", x.differ(a, b), 2);
        Check.holds("01 is told", Given.toldText(x).equals("01"));
        due("the other way", x.differ(b, a), 2);
        due("with itself", x.differ(a, a), NONE);
        Check.holds("what was told stays", Given.toldText(x).equals("01"));
        due("by the text without letters", x.differ(a, x.not(a)), 0);
        due("told(0)", x.told(0), NONE);
        due("bad a", x.differ(-1, a), BAD);
        due("bad b", x.differ(a, x.of(0)), BAD);
        int long38 = Given.one(x, "11111111111111111111111111111111111111");
        due("from none", x.differ(long38, x.make(2)), 38);
        due("told(37)", x.told(37), 1);
        due("told(38)", x.told(38), NONE);
        farApart();
        backToTheFirst();
    }

    /** Letters that lead back to the first states of both are no part of the text told. */
    private static void backToTheFirst() {
        TextMachines x = new TextMachines(2);
        int none = x.make(2);
        int zerosAndOne = x.join(x.many(Given.one(x, "0")), Given.one(x, "1"));
        due("by one letter", x.differ(zerosAndOne, none), 1);
        Check.due("told", Given.toldText(x), "1");
        int rowsAndTwoZeros = x.join(x.many(Given.one(x, "01")), Given.one(x, "00"));
        due("by two letters", x.differ(none, rowsAndTwoZeros), 2);
        Check.due("told", Given.toldText(x), "00");
        due("one of them is shorter", x.differ(zerosAndOne, rowsAndTwoZeros), 1);
        Check.due("told", Given.toldText(x), "1");
    }

    /** Lengths 38, 77, .. and lengths 38, 78, ..: no two machines of 39 and 40 states differ later. */
    private static void farApart() {
        TextMachines x = new TextMachines(2);
        int ring39 = x.pair(0, Given.ring(x, 3), Given.ring(x, 13));
        int ring40 = x.pair(0, Given.ring(x, 5), Given.ring(x, 8));
        due("states of 39", x.states(ring39), 39);
        due("states of 40", x.states(ring40), 40);
        due("far apart", x.differ(x.cut(ring39, 1), x.cut(ring40, 2)), 77);
        Check.holds("77 times 0", Given.toldText(x).equals("0".repeat(77)));
    }

    private static void p25Count() {
        TextMachines x = new TextMachines(2);
        int all = x.make(1);
        due("no letters", x.count(all, 0), 1);
        due("10 letters", x.count(all, 10), 1024);
        due("59 letters", x.count(all, 59), 1L << 59);
        due("60 letters", x.count(all, 60), 1000000000000000000L);
        due("100 letters", x.count(all, 100), 1000000000000000000L);
        int a = Given.some(x, "", "0", "10", "11");
        due("0", x.count(a, 0), 1);
        due("1", x.count(a, 1), 1);
        due("2", x.count(a, 2), 2);
        due("3", x.count(a, 3), 0);
        due("100", x.count(a, 100), 0);
        due("n -1", x.count(a, -1), BAD);
        due("n 101", x.count(a, 101), BAD);
        due("bad a", x.count(-1, 0), BAD);
        due("bad a", x.count(x.of(0), 0), BAD);
        TextMachines y = new TextMachines(4);
        due("4 letters, 29", y.count(y.make(1), 29), 1L << 58);
        due("4 letters, 30", y.count(0, 30), 1000000000000000000L);
        due("4 letters, 100", y.count(0, 100), 1000000000000000000L);
    }

    private static void p26Pick() {
        TextMachines x = new TextMachines(2);
        int a = Given.some(x, "", "0", "10", "11", "001");
        String[] due = {"", "0", "10", "11", "001"};
        for (int i = 0; i < due.length; i++) {
            due("pick " + i, x.pick(a, i), due[i].length());
            Check.holds("told is " + due[i], Given.toldText(x).equals(due[i]));
        }
        due("pick 5", x.pick(a, 5), NONE);
        Check.holds("what was told stays", Given.toldText(x).equals("001"));
        due("pick max", x.pick(a, MAX_VALUE), NONE);
        due("pick -1", x.pick(a, -1), BAD);
        due("bad a", x.pick(x.of(0), 0), BAD);
        due("pick of none", x.pick(x.make(2), 0), NONE);
        due("pick max of all", x.pick(x.make(1), MAX_VALUE), 31);
        Check.holds("the first of 31 letters", Given.toldText(x).equals("0".repeat(31)));
        due("the one ahead", x.pick(x.make(1), MAX_VALUE - 1), 30);
        Check.holds("the last of 30 letters", Given.toldText(x).equals("1".repeat(30)));
        int ones = x.many(Given.one(x, "1"));
        due("100 ones", x.pick(ones, 100), 100);
        due("told(99)", x.told(99), 1);
        due("told(100)", x.told(100), NONE);
        due("101 ones", x.pick(ones, 101), NONE);
        due("told(99) stays", x.told(99), 1);
    }

    private static void p27Told() {
        TextMachines x = new TextMachines(4);
        due("nothing told", x.told(0), NONE);
        int a = Given.one(x, "3021");
        due("nothing told yet", x.told(0), NONE);
        x.pick(a, 0);
        int[] due = {3, 0, 2, 1};
        for (int i = 0; i < 4; i++) {
            due("told " + i, x.told(i), due[i]);
        }
        due("told(4)", x.told(4), NONE);
        due("told(-1)", x.told(-1), NONE);
        due("told(min)", x.told(MIN_VALUE), NONE);
        due("told(max)", x.told(MAX_VALUE), NONE);
        x.wipe();
        due("COLLECTED is another", x.told(0), 3);
        x.pick(x.make(0), 0);
        due("told of no letters", x.told(0), NONE);
    }

    private static void p28Longest() {
        TextMachines x = new TextMachines(2);
        due("none", x.longest(x.make(2)), NONE);
        due("all", x.longest(x.make(1)), ENDLESS);
        due("no letters", x.longest(Given.one(x, "")), 0);
        due("some", x.longest(Given.some(x, "0", "110", "11")), 3);
        int most = Given.one(x, "11111111111111111111111111111111111111");
        due("38", x.longest(most), 38);
        due("all others", x.longest(x.not(most)), ENDLESS);
        due("many of 38", x.longest(x.many(most)), ENDLESS);
        due("bad a", x.longest(-1), BAD);
        due("bad a", x.longest(x.of(0)), BAD);
    }

    private static void p29Of() {
        TextMachines x = new TextMachines(3);
        int a = Given.one(x, "012");
        x.many(a);
        due("of(0)", x.of(0), 2);
        due("of(1)", x.of(1), 3);
        due("of(3)", x.of(3), 3);
        due("of(-1)", x.of(-1), BAD);
        due("of(4)", x.of(4), BAD);
        due("of(min)", x.of(MIN_VALUE), BAD);
        x.turn(x.make(1));
        due("CAME of turn", x.of(2), 1);
        x.turn(99);
        x.add(0);
        x.wipe();
        x.pick(a, 0);
        x.count(a, 3);
        due("only acts that are not BAD change CAME", x.of(2), 1);
        x.not(a);
        due("an act without places", x.of(2), 0);
    }

    /** States are numbered as they are come to, however the machine was made. */
    private static void termsNumbering() {
        TextMachines x = new TextMachines(3);
        int[] made = {Given.some(x, "210", "12", ""), x.turn(Given.some(x, "011", "20")), x.many(Given.some(x, "21", "1")),
            x.numerals(5, 70), x.widen(Given.some(x, "2101", "11"), 1)};
        for (int a : made) {
            int known = 1;
            for (int s = 0; s < x.states(a); s++) {
                Check.holds("state " + s + " was come to before", s < known);
                for (int l = 0; l < 3; l++) {
                    int to = x.next(a, s, l);
                    Check.holds("no number is left out", to <= known);
                    known = Math.max(known, to + 1);
                }
            }
            due("all are come to", known, x.states(a));
        }
    }

    /** Machines that are alike but for one step or one end are two. */
    private static void termsSame() {
        TextMachines x = new TextMachines(2);
        int all = x.make(1);
        Given.collect(x, "1");
        int withOne = x.when(3, all, true);
        x.wipe();
        int notEmpty = x.when(0, all, false);
        due("states", x.states(withOne), x.states(notEmpty));
        due("differ in a step", x.differ(withOne, notEmpty), 1);
        due("of(0)", x.of(0), 3);
        int odd = x.join(Given.some(x, "0", "1"), Given.ring(x, 2));
        Check.holds("differ in ends", odd != Given.ring(x, 2) && x.not(odd) == Given.ring(x, 2));
    }

    /** Every act on machines of 40 states. */
    private static void termsMostStates() {
        TextMachines x = new TextMachines(2);
        int a = x.pair(0, Given.ring(x, 5), Given.ring(x, 8));
        due("states", x.states(a), 40);
        int none = x.make(2);
        int all = x.make(1);
        int empty = Given.one(x, "");
        due("pair", x.pair(0, a, a), a);
        due("not", x.not(x.not(a)), a);
        due("join", x.join(a, a), a);
        due("join with no letters", x.join(a, empty), a);
        due("CAME: each state, with the end of the other at 0 alone", x.of(2), 41);
        due("many", x.many(a), a);
        due("CAME: the beginning, and each state by itself", x.of(2), 41);
        due("turn", x.turn(a), a);
        due("CAME", x.of(2), 40);
        due("become", x.become(a, 0, 0), a);
        due("drop", x.drop(a, 1), x.many(Given.one(x, "0")));
        due("cut", x.cut(a, 40), a);
        due("trim", x.trim(a, 80), a);
        due("cut 39", x.cut(a, 39), x.trim(a, 79));
        due("part 0", x.part(a, 0), all);
        due("part 1", x.part(a, 1), all);
        due("part 2", x.part(a, 2), all);
        due("widen 40", x.widen(a, 40), a);
        due("widen 38", x.widen(a, 38), a);
        due("within", x.within(a, none), 0);
        due("differ", x.differ(a, empty), 40);
        due("longest", x.longest(a), ENDLESS);
        due("count 39", x.count(a, 39), 0);
        due("count 40", x.count(a, 40), 1L << 40);
        due("pick", x.pick(a, 1 << 30), 40);
        due("told(10), as 2 to the 30 less 1 is written", x.told(10), 1);
        due("told(9)", x.told(9), 0);
        due("next", x.next(a, 39, 1), 0);
        due("end", x.end(a, 39), 0);
        due("no state 40", x.end(a, 40), BAD);
        due("no state 40", x.next(a, 40, 0), BAD);
        Given.collect(x, "0".repeat(80));
        due("has", x.has(a), 1);
    }

    private static void termsFullShelf() {
        TextMachines x = new TextMachines(2);
        due("none", x.make(2), 0);
        for (int i = 1; i < 60; i++) {
            // the numerals of i alone
            due("machine " + i, x.numerals(i, i), i);
        }
        due("of(0)", x.of(0), 60);
        due("one that is there", x.numerals(7, 7), 7);
        due("a 61st: numerals", x.numerals(60, 60), FULL);
        due("a 61st: make(1)", x.make(1), FULL);
        Given.collect(x, "00");
        due("a 61st: make(0)", x.make(0), FULL);
        due("a 61st: not", x.not(0), FULL);
        due("a 61st: pair", x.pair(1, 1, 2), FULL);
        Check.holds("CAME of FULL", x.of(2) > 2);
        due("a 61st: join", x.join(59, 59), FULL);
        due("a 61st: many", x.many(3), FULL);
        due("a 61st: turn", x.turn(2), FULL);
        due("a 61st: become", x.become(1, 1, 0), FULL);
        due("a 61st: drop", x.drop(2, 1), FULL);
        due("a 61st: cut", x.cut(4, 1), FULL);
        due("a 61st: trim", x.trim(1, 1), FULL);
        due("a 61st: part", x.part(1, 0), FULL);
        due("a 61st: part", x.part(1, 1), FULL);
        due("a 61st: part", x.part(1, 2), FULL);
        due("a 61st: widen", x.widen(1, 0), FULL);
        due("CAME of the widened", x.of(2), 2);
        Given.collect(x, "1");
        due("there: when", x.when(0, 1, true), 1);
        due("there: when not", x.when(0, 1, false), 0);
        due("there: cut", x.cut(9, 40), 0);
        due("BAD first", x.not(60), BAD);
        due("of(0)", x.of(0), 60);
        due("clear()", x.clear(), 60);
        due("make(1)", x.make(1), 0);
    }

    private static void termsLargeBeforeFull() {
        TextMachines x = new TextMachines(2);
        int letter = x.pair(1, Given.one(x, "0"), Given.one(x, "1"));
        int fifth = x.join(x.make(1), Given.one(x, "0"));
        for (int i = 0; i < 4; i++) {
            fifth = x.join(fifth, letter);
        }
        for (int i = 2; x.of(0) < 60; i++) {
            x.numerals(i, i);
        }
        due("64 states: LARGE ahead of FULL", x.join(fifth, letter), LARGE);
        due("CAME", x.of(2), 128);
        Given.collect(x, "0".repeat(40));
        due("make: LARGE ahead of FULL", x.make(0), LARGE);
        due("when: LARGE ahead of FULL", x.when(3, fifth, true), LARGE);
        due("numerals: LARGE ahead of FULL", x.numerals(0, 1000000000), LARGE);
        due("make(2): FULL", x.make(2), FULL);
        Given.collect(x, "0");
        int all = x.make(1);
        due("when: FULL", x.when(1, all, true), FULL);
        due("CAME of when, FULL", x.of(2), 3);
        due("when not: FULL", x.when(1, all, false), FULL);
    }

    private static void termsRefusalsChangeNothing() {
        TextMachines x = new TextMachines(2);
        int a = Given.one(x, "01");
        x.pick(a, 0);
        x.many(a);
        x.pair(9, a, a);
        x.join(a, 9);
        x.cut(a, 101);
        x.trim(a, -1);
        x.part(a, 3);
        x.widen(a, 41);
        x.when(4, a, true);
        x.numerals(2, 1);
        x.make(3);
        x.add(2);
        x.drop(a, 2);
        x.become(a, 0, 2);
        x.count(a, 101);
        x.differ(a, 9);
        x.pick(a, -1);
        due("of(0)", x.of(0), 2);
        due("of(1)", x.of(1), 2);
        due("CAME", x.of(2), 6);
        Check.holds("what was told stays", Given.toldText(x).equals("01"));
    }
}
