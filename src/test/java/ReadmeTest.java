import java.io.IOException;
import java.lang.reflect.Method;
import java.lang.reflect.Modifier;
import java.nio.file.Files;
import java.nio.file.Path;
import java.util.HashMap;
import java.util.Map;
import java.util.regex.Matcher;
import java.util.regex.Pattern;

/** What README.md shows is so: its example is played line by line, and it names every call. */
public final class ReadmeTest {
    private static final Pattern NEW = Pattern.compile("TextMachines x = new TextMachines\\((\\d)\\);.*");
    private static final Pattern CALL =
        Pattern.compile("(?:int (\\w+) = )?x\\.(\\w+)\\(([^)]*)\\);\\s*// ([A-Z]+|\\d+)\\b.*");

    private final Map<String, Integer> names = new HashMap<>();
    private TextMachines x = null;

    private ReadmeTest() {
    }

    public static void main(String[] args) throws IOException, ReflectiveOperationException {
        String readme = Files.readString(Path.of("README.md"));
        new ReadmeTest().play(readme.replaceAll("(?s).*```java\n(.*?)```.*", "$1"));
        namesAll(readme);
        Check.finish();
    }

    private void play(String example) throws ReflectiveOperationException {
        for (String line : example.split("\n")) {
            Matcher made = NEW.matcher(line);
            Matcher call = CALL.matcher(line);
            if (made.matches()) {
                x = new TextMachines(Integer.parseInt(made.group(1)));
            } else if (call.matches() && x != null) {
                Check.due(line, answer(call.group(2), call.group(3), call.group(1)), number(call.group(4)));
            } else {
                Check.holds("the line can be played: " + line, false);
            }
        }
    }

    private long answer(String call, String given, String name) throws ReflectiveOperationException {
        String[] words = given.isEmpty() ? new String[0] : given.split(", ");
        Object[] numbers = new Object[words.length];
        Class<?>[] kinds = new Class<?>[words.length];
        for (int i = 0; i < words.length; i++) {
            numbers[i] = number(words[i]);
            kinds[i] = int.class;
        }
        long got = ((Number) TextMachines.class.getMethod(call, kinds).invoke(x, numbers)).longValue();
        if (name != null) {
            names.put(name, (int) got);
        }
        return got;
    }

    private int number(String word) throws ReflectiveOperationException {
        if (word.matches("\\d+")) {
            return Integer.parseInt(word);
        }
        return names.containsKey(word) ? names.get(word) : TextMachines.class.getField(word).getInt(null);
    }

    private static void namesAll(String readme) throws IOException {
        for (Method m : TextMachines.class.getDeclaredMethods()) {
            if (Modifier.isPublic(m.getModifiers())) {
                boolean named = Pattern.compile("`" + m.getName() + "\\([^`]*\\)`").matcher(readme).find();
                Check.holds("README.md names " + m.getName(), named);
            }
        }
        try (var files = Files.newDirectoryStream(Path.of("src/test/java"), "*Test.java")) {
            for (Path file : files) {
                String test = file.getFileName().toString().replace(".java", "");
                Check.holds("README.md names " + test, readme.contains("`" + test + "`"));
            }
        }
    }
}
