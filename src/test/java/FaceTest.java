import java.io.IOException;
import java.lang.reflect.Constructor;
import java.lang.reflect.Field;
import java.lang.reflect.Method;
import java.lang.reflect.Modifier;
import java.nio.file.Files;
import java.nio.file.Path;
import java.util.Set;
import java.util.TreeSet;
import java.util.regex.Pattern;

/** The document's face, and those rules of LANGUAGE.md that can be told from classes or words. */
public final class FaceTest {
    private static final String[] METHODS = {"int clear()", "int add(int)", "int wipe()", "int make(int)",
        "int pair(int,int,int)", "int not(int)", "int join(int,int)", "int many(int)", "int turn(int)",
        "int become(int,int,int)", "int drop(int,int)", "int cut(int,int)", "int trim(int,int)",
        "int part(int,int)", "int widen(int,int)", "int when(int,int,boolean)", "int numerals(int,int)",
        "int states(int)", "int next(int,int,int)", "int end(int,int)", "int has(int)", "int within(int,int)",
        "int differ(int,int)", "long count(int,int)", "int pick(int,int)", "int told(int)", "int longest(int)",
        "int of(int)"};
    private static final String[] CONSTANTS = {"NONE", "BAD", "FULL", "LARGE", "ENDLESS"};

    private FaceTest() {
    }

    public static void main(String[] args) throws IOException {
        face();
        constants();
        insides();
        words();
        sizes();
        Check.finish();
    }

    private static String signature(Method m) {
        StringBuilder text = new StringBuilder(m.getReturnType().getName() + " " + m.getName() + "(");
        for (Class<?> c : m.getParameterTypes()) {
            text.append(text.charAt(text.length() - 1) == '(' ? "" : ",").append(c.getName());
        }
        return text.append(")").toString();
    }

    private static void face() {
        Set<String> due = new TreeSet<>(Set.of(METHODS));
        Set<String> open = new TreeSet<>();
        Set<String> names = new TreeSet<>();
        for (Method m : TextMachines.class.getDeclaredMethods()) {
            if (!Modifier.isPrivate(m.getModifiers())) {
                Check.holds(m + " is public and of an object", Modifier.isPublic(m.getModifiers()) && !Modifier.isStatic(m.getModifiers()));
                open.add(signature(m));
                names.add(m.getName());
            }
        }
        Check.holds("the methods are those of the document: " + open, open.equals(due));
        Constructor<?>[] makers = TextMachines.class.getDeclaredConstructors();
        Check.due("constructors", makers.length, 1);
        Check.holds("the constructor takes an int", makers[0].getParameterCount() == 1
            && makers[0].getParameterTypes()[0] == int.class && Modifier.isPublic(makers[0].getModifiers()));
        int marks = TextMachines.class.getModifiers();
        Check.holds("the class is public and final", Modifier.isPublic(marks) && Modifier.isFinal(marks));
        checkPrivateNames(TextMachines.class, names);
        for (Class<?> c : TextMachines.class.getDeclaredClasses()) {
            checkPrivateNames(c, names);
        }
    }

    private static void checkPrivateNames(Class<?> c, Set<String> names) {
        for (Method m : c.getDeclaredMethods()) {
            boolean isFace = c == TextMachines.class && Modifier.isPublic(m.getModifiers());
            Check.holds(m + " has a name of its own", isFace || !names.contains(m.getName()));
        }
    }

    private static void constants() {
        int[] due = {TextMachines.NONE, TextMachines.BAD, TextMachines.FULL, TextMachines.LARGE, TextMachines.ENDLESS};
        for (int i = 0; i < due.length; i++) {
            Check.due(CONSTANTS[i], due[i], -1 - i);
        }
        Set<String> open = new TreeSet<>();
        for (Field f : TextMachines.class.getDeclaredFields()) {
            if (!Modifier.isPrivate(f.getModifiers())) {
                open.add(f.getName());
            }
        }
        Check.holds("open fields are the constants: " + open, open.equals(Set.of(CONSTANTS)));
    }

    private static void insides() {
        Class<?>[] inside = TextMachines.class.getDeclaredClasses();
        Check.holds("some twelve classes", inside.length + 1 <= 12);
        for (Class<?> c : inside) {
            Check.holds(c + " is static and not open", Modifier.isStatic(c.getModifiers())
                && !Modifier.isPublic(c.getModifiers()) && !Modifier.isProtected(c.getModifiers()));
            checkFields(c);
            for (Method m : c.getDeclaredMethods()) {
                Check.holds(m + " takes seven at most", m.getParameterCount() <= 7);
            }
        }
        checkFields(TextMachines.class);
    }

    private static void checkFields(Class<?> c) {
        int own = 0;
        for (Field f : c.getDeclaredFields()) {
            boolean fixed = Modifier.isStatic(f.getModifiers());
            Check.holds(f + " is final, if static", !fixed || Modifier.isFinal(f.getModifiers()));
            own += fixed ? 0 : 1;
        }
        Check.holds(c + " has some twenty fields at most", own <= 20);
    }

    private static String source() throws IOException {
        return Files.readString(Path.of("src/main/java/TextMachines.java"))
            .replaceAll("(?s)/\\*.*?\\*/", " ").replaceAll("//[^\n]*", " ");
    }

    private static void words() throws IOException {
        String code = source();
        String[] out = {"throw", "throws", "try", "catch", "finally", "synchronized", "assert", "import", "package",
            "hashCode", "toString", "volatile", "native", "Random", "Thread", "nanoTime", "currentTimeMillis",
            "Exception", "yield", "var"};
        for (String word : out) {
            Check.holds("no word " + word, !Pattern.compile("\\b" + word + "\\b").matcher(code).find());
        }
        String[] signs = {"->", "::", "@", "\"", "[][]", "Exact("};
        for (String sign : signs) {
            Check.holds("no sign " + sign, !code.contains(sign));
        }
    }

    /** Methods of some sixty lines at most: between lines that open and close a body. */
    private static void sizes() throws IOException {
        int longest = 0;
        int started = 0;
        String[] lines = source().split("\n");
        for (int i = 0; i < lines.length; i++) {
            boolean opens = lines[i].matches("\\s+[A-Za-z].*\\) \\{") && !lines[i].matches("\\s+(if|for|while|switch|} else).*");
            if (opens) {
                started = i;
            }
            longest = Math.max(longest, lines[i].matches(" {4}( {4})?}") ? Math.min(i - started, 200) : 0);
            if (lines[i].matches(" {4}( {4})?}")) {
                started = i;
            }
        }
        Check.holds("methods are short, the longest has " + longest, longest > 3 && longest <= 60);
    }
}
