import java.io.IOException;
import java.lang.reflect.Method;
import java.nio.charset.StandardCharsets;
import java.nio.file.Files;
import java.nio.file.Path;
import java.util.Arrays;
import java.util.HashSet;
import java.util.Set;
import java.util.regex.Matcher;
import java.util.regex.Pattern;

/** README.md's examples, line by line: each call must answer what stands behind it there, and every call is named. */
public final class ReadmeTests extends Checks {
    private static final String MADE = "CorkBreaks x = new CorkBreaks();";
    private static final Pattern LINE = Pattern.compile("x\\.(\\w+)\\((.*?)\\); +// (-?\\w+)(: .*)?");

    private static int number(String word) throws ReflectiveOperationException {
        return word.matches("[A-Z]+") ? CorkBreaks.class.getField(word).getInt(null) : Integer.decode(word);
    }

    private static int answer(CorkBreaks x, String name, String arguments) throws ReflectiveOperationException {
        String[] words = arguments.isEmpty() ? new String[0] : arguments.split(", ");
        Object[] numbers = new Object[words.length];
        for (int k = 0; k < words.length; k++) {
            numbers[k] = number(words[k].replace("CorkBreaks.", ""));
        }
        Class<?>[] ints = new Class<?>[words.length];
        Arrays.fill(ints, int.class);
        Method m = CorkBreaks.class.getMethod(name, ints);
        return (Integer) m.invoke(x, numbers);
    }

    private static void examples(String readme) throws ReflectiveOperationException {
        CorkBreaks x = null;
        boolean inside = false;
        int calls = 0;
        for (String line : readme.split("\n")) {
            if (line.startsWith("```")) {
                inside = line.equals("```java");
            } else if (inside && line.equals(MADE)) {
                x = new CorkBreaks();
            } else if (inside && !line.isEmpty()) {
                Matcher m = LINE.matcher(line);
                boolean fits = m.matches() && x != null;
                holds("'" + line + "' is a call with its answer", fits);
                if (fits) {
                    due(line, answer(x, m.group(1), m.group(2)), number(m.group(3)));
                    calls++;
                }
            }
        }
        holds("there are examples", calls > 0);
    }

    private static void named(String readme) {
        Set<String> words = new HashSet<>(Arrays.asList(readme.split("\\W+")));
        for (Method m : CorkBreaks.class.getDeclaredMethods()) {
            holds("README.md names " + m.getName(), m.isSynthetic() || !java.lang.reflect.Modifier.isPublic(m.getModifiers())
                || words.contains(m.getName()));
        }
        for (String constant : new String[] {"BAD", "NO", "FULL", "NONE", "NOTHING", "KIND", "INDEX", "SIZE"}) {
            holds("README.md names " + constant, words.contains(constant));
        }
        holds("README.md says how the tests are run", readme.contains(".ci/run"));
    }

    private static void tests(String readme, Path root) throws IOException {
        try (var files = Files.list(root.resolve("src/test/java"))) {
            files.map(f -> f.getFileName().toString().replace(".java", ""))
                .forEach(name -> holds("README.md names " + name, readme.contains(name)));
        }
    }

    public static void main(String[] args) throws IOException, ReflectiveOperationException {
        Path root = Path.of(System.getProperty("project.root", "."));
        String readme = Files.readString(root.resolve("README.md"), StandardCharsets.UTF_8);
        examples(readme);
        named(readme);
        tests(readme, root);
        ends();
    }
}
