import java.io.IOException;
import java.lang.reflect.Field;
import java.lang.reflect.Method;
import java.lang.reflect.Modifier;
import java.nio.charset.StandardCharsets;
import java.nio.file.Files;
import java.nio.file.Path;
import java.util.ArrayList;
import java.util.Arrays;
import java.util.List;
import java.util.regex.Matcher;
import java.util.regex.Pattern;

/** The class held to the face as the document itself has it, and the tests and README.md to the document's promises. */
public final class DocumentTests extends Checks {
    private static final int PROMISES = 45;
    private static final Path ROOT = Path.of(System.getProperty("project.root", "."));

    private static String read(String path) throws IOException {
        return Files.readString(ROOT.resolve(path), StandardCharsets.UTF_8);
    }

    private static List<String> found(String pattern, String in) {
        List<String> all = new ArrayList<>();
        Matcher m = Pattern.compile(pattern).matcher(in);
        while (m.find()) {
            all.add(m.group(1));
        }
        return all;
    }

    private static String faceOf(String document) {
        return document.substring(document.indexOf("```java") + 7, document.indexOf("## Terms"));
    }

    private static void constants(String face) throws ReflectiveOperationException {
        said("The public face: every constant with its value");
        List<String> told = found("(\\w+ = -\\d+)", face);
        due("how many constants the document has", told.size(), 8);
        for (String constant : told) {
            Field f = CorkBreaks.class.getField(constant.split(" = ")[0]);
            int all = Modifier.PUBLIC | Modifier.STATIC | Modifier.FINAL;
            holds(f + " is public static final", f.getModifiers() == all && f.getType() == int.class);
            due(f.getName(), f.getInt(null), Integer.parseInt(constant.split(" = ")[1]));
        }
        due("how many constants the class shows", CorkBreaks.class.getFields().length, told.size());
    }

    private static void methods(String face, String source) throws ReflectiveOperationException {
        said("The public face: the constructor, every method");
        holds("the class is as told", source.contains("\n" + found("(public final class .*)", face).get(0)));
        holds("the constructor is as told", face.contains("public CorkBreaks();") && source.contains("    public CorkBreaks() {"));
        List<String> told = found("(public int \\w+\\(.*\\));", face);
        due("how many methods the document has", told.size(), PROMISES - 1);
        List<String> written = found("\n    (public [^\n;=]*\\)) \\{", source.replace("public CorkBreaks() {", ""));
        holds("the methods of the source are those of the document, in their order: " + written, written.equals(told));
        for (String method : told) {
            String name = method.replaceAll("public int |\\(.*", "");
            int many = found("(int \\w+)[,)]", method).size();
            Class<?>[] ints = new Class<?>[many];
            Arrays.fill(ints, int.class);
            Method m = CorkBreaks.class.getMethod(name, ints);
            holds(name + " is there, and no more", m.getModifiers() == Modifier.PUBLIC && m.getReturnType() == int.class);
        }
    }

    private static void promises(String document, String face, String tests) {
        said("Promise 1 to Promise 45");
        List<String> named = found("\n## (Promise \\d+: .*)", document);
        List<String> signed = found("\n`(.*?)`: ", document);
        due("how many promises the document has", named.size(), PROMISES);
        due("how many of them tell a call", signed.size(), PROMISES);
        for (int k = 0; k < PROMISES; k++) {
            holds(signed.get(k) + " is in the face", face.contains("public " + signed.get(k) + ";"));
            String name = k == 0 ? "A new object" : signed.get(k).replaceAll("int (\\w+)\\(.*", "$1");
            holds("the promise is of that call", named.get(k).equals("Promise " + (k + 1) + ": " + name));
            String test = "promise" + (k + 1) + "()";
            holds(test + " is written and run", tests.contains("void " + test + " {") && tests.contains("        " + test + ";"));
        }
    }

    public static void main(String[] args) throws IOException, ReflectiveOperationException {
        String document = read("../shared/DOC.md");
        String face = faceOf(document);
        String source = read("src/main/java/CorkBreaks.java");
        constants(face);
        methods(face, source);
        promises(document, face, read("src/test/java/PromiseTests.java"));
        ends();
    }
}
