import java.util.TreeSet;

/** Counts the answers of a test and prints those that are not as due. */
final class Check {
    private static int asked = 0;
    private static int wrong = 0;
    private static int boundaries = 0;
    private static String about = "";
    private static final TreeSet<Integer> PROMISES = new TreeSet<>();

    private Check() {
    }

    static void due(String call, long got, long want) {
        asked++;
        if (got != want) {
            wrong++;
            System.out.println(about + call + " answered " + got + ", due is " + want);
        }
    }

    static void due(String what, String got, String want) {
        asked++;
        if (!got.equals(want)) {
            wrong++;
            System.out.println(about + what + " is '" + got + "', due is '" + want + "'");
        }
    }

    static void holds(String what, boolean so) {
        asked++;
        if (!so) {
            wrong++;
            System.out.println(about + "does not hold: " + what);
        }
    }

    /** The test of one boundary case: the promise, 0 for the terms, and the document's words. */
    static void boundary(int promise, String words, Runnable test) {
        about = (promise == 0 ? "terms" : "promise " + promise) + " '" + words + "': ";
        int before = asked;
        test.run();
        holds("something is asked", asked > before);
        about = "";
        boundaries++;
        PROMISES.add(promise);
    }

    /** Each of these promises has had a boundary case. */
    static void covered(int from, int to) {
        for (int promise = from; promise <= to; promise++) {
            holds("promise " + promise + " has boundary cases", PROMISES.contains(promise));
        }
    }

    /** Ends the program: with exit code 1, if an answer was wrong or none was asked for. */
    static void finish() {
        if (boundaries > 0) {
            System.out.println(boundaries + " boundary cases");
        }
        System.out.println(asked + " answers, " + wrong + " not as due");
        System.exit(wrong == 0 && asked > 0 ? 0 : 1);
    }
}
