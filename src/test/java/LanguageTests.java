import java.io.IOException;
import java.lang.management.ManagementFactory;
import java.lang.reflect.Constructor;
import java.lang.reflect.Field;
import java.lang.reflect.Method;
import java.lang.reflect.Modifier;
import java.nio.charset.StandardCharsets;
import java.nio.file.Files;
import java.nio.file.Path;
import java.util.ArrayList;
import java.util.Arrays;
import java.util.HashSet;
import java.util.List;
import java.util.Set;
import java.util.TreeSet;
import java.util.regex.Matcher;
import java.util.regex.Pattern;

/** What can be seen of LANGUAGE.md from the class and its source, and how much room calls take. */
public final class LanguageTests {
    private static final String FACE = "bottle3 told2 layer3 sets4 as2 turns2 set3 pull3 push1 warm1 rule2 deal1 seed1 years1 cellar1 "
        + "tried4 depth3 tree3 behind2 when3 which3 laid3 old2 fee0 fine1 feed3 trim1 text0 textTold2 why1 sheet3 mark3 pour2 reads2 "
        + "copy5 lay3 ask2 item2 rest2 tell1 check1 keep0 back0 count1";
    private static final String CONSTANTS = "BAD NO FULL NONE NOTHING KIND INDEX SIZE";
    private static int wrong = 0;

    private static void holds(boolean it, String what) {
        if (!it) {
            wrong++;
            System.out.println("not so: " + what);
        }
    }

    private static Set<String> words(String row) {
        return new TreeSet<>(Arrays.asList(row.split(" ")));
    }

    private static void face() {
        Class<CorkBreaks> c = CorkBreaks.class;
        holds(Modifier.isPublic(c.getModifiers()) && Modifier.isFinal(c.getModifiers()), "the class is public and final");
        Set<String> seen = new TreeSet<>();
        Set<String> names = new HashSet<>();
        for (Method m : c.getDeclaredMethods()) {
            if (Modifier.isPrivate(m.getModifiers())) {
                continue;
            }
            seen.add(m.getName() + m.getParameterCount());
            names.add(m.getName());
            holds(Modifier.isPublic(m.getModifiers()) && !Modifier.isStatic(m.getModifiers()) && m.getReturnType() == int.class, m.getName());
            holds(Arrays.stream(m.getParameterTypes()).allMatch(t -> t == int.class), m.getName() + " takes ints");
        }
        holds(seen.equals(words(FACE)), "the face is " + seen);
        Set<String> constants = new TreeSet<>();
        for (Field f : c.getDeclaredFields()) {
            if (!Modifier.isPrivate(f.getModifiers())) {
                constants.add(f.getName());
            }
        }
        holds(constants.equals(words(CONSTANTS)), "the constants are " + constants);
        Constructor<?>[] made = c.getDeclaredConstructors();
        holds(made.length == 1 && made[0].getParameterCount() == 0 && Modifier.isPublic(made[0].getModifiers()), "one constructor");
        List<Class<?>> all = new ArrayList<>(Arrays.asList(c.getDeclaredClasses()));
        holds(all.size() <= 11, "no more than some twelve classes");
        for (Class<?> inside : all) {
            holds(Modifier.isStatic(inside.getModifiers()) && !Modifier.isPublic(inside.getModifiers()), inside + " is static");
        }
        all.add(c);
        for (Class<?> one : all) {
            parts(one, one == c ? Set.of() : names);
            for (Method m : one.getDeclaredMethods()) {
                holds(!Modifier.isPrivate(m.getModifiers()) || !names.contains(m.getName()), m + " bears a public name");
            }
        }
    }

    private static void parts(Class<?> c, Set<String> names) {
        int fields = 0;
        for (Field f : c.getDeclaredFields()) {
            if (Modifier.isStatic(f.getModifiers())) {
                holds(Modifier.isFinal(f.getModifiers()), f + " is final");
            } else {
                fields++;
            }
        }
        holds(fields <= 20, c + " has " + fields + " fields");
        for (Method m : c.getDeclaredMethods()) {
            holds(m.getParameterCount() <= 7, m + " takes at most seven");
            holds(!names.contains(m.getName()), m + " bears a public name");
        }
    }

    /** The source without comments and without what stands in quotes. */
    private static String bare(String source) {
        String s = source.replaceAll("(?s)/\\*.*?\\*/", " ").replaceAll("//[^\n]*", " ");
        return s.replaceAll("\"[^\"]*\"", "\"\"").replaceAll("'[^']'", "' '");
    }

    private static void source() throws IOException {
        Path root = Path.of(System.getProperty("project.root", "."));
        String source = Files.readString(root.resolve("src/main/java/CorkBreaks.java"), StandardCharsets.UTF_8);
        holds(source.chars().allMatch(c -> c == '\n' || c >= 32 && c < 127), "signs of the source");
        String bare = bare(source);
        String[] banned = {"throw", "throws", "try", "catch", "finally", "synchronized", "assert", "volatile", "native", "package", "import",
            "hashCode", "toString", "double", "float", "Object", "Thread", "Runtime"};
        for (String word : banned) {
            holds(!Pattern.compile("\\b" + word + "\\b").matcher(bare).find(), "no " + word);
        }
        holds(!bare.contains("->") && !bare.contains("::") && !bare.contains("@"), "no lambda, reference, annotation");
        holds(!bare.contains("\"\" +") && !bare.contains("+ \"\""), "no texts joined by +");
        holds(!Pattern.compile("(?m)^ +static \\{").matcher(bare).find(), "no static block");
        Set<String> library = new TreeSet<>();
        Matcher m = Pattern.compile("\\b(System|Math|Arrays|Integer|Long|String|StringBuilder)\\.(\\w+)").matcher(bare);
        while (m.find()) {
            library.add(m.group());
        }
        library.removeAll(Set.of("System.arraycopy", "Math.max", "Math.min", "Math.abs"));
        holds(library.isEmpty(), "the library: " + library);
        lengths(source);
    }

    private static void lengths(String source) {
        String[] lines = source.split("\n");
        for (int k = 0; k < lines.length; k++) {
            Matcher m = Pattern.compile("^( {4}| {8})(?=\\w)[\\w\\[\\] ]+\\(.*\\{$").matcher(lines[k]);
            if (!m.find() || lines[k].trim().matches("(if|for|while|switch) .*")) {
                continue;
            }
            int end = k;
            while (end < lines.length && !lines[end].equals(m.group(1) + "}")) {
                end++;
            }
            holds(end - k + 1 <= 60, "the method at line " + (k + 1) + " has " + (end - k + 1) + " lines");
        }
    }

    private static long allocated() {
        com.sun.management.ThreadMXBean bean = (com.sun.management.ThreadMXBean) ManagementFactory.getThreadMXBean();
        return bean.getThreadAllocatedBytes(Thread.currentThread().getId());
    }

    /** The dearest calls make nothing; an object and a text make little. */
    private static void room() {
        CorkBreaks x = new CorkBreaks();
        x.deal(8);
        x.keep();
        x.sheet(0, 0, 24);
        dearest(x, 3);
        long before = allocated();
        dearest(x, 500);
        long used = allocated() - before;
        holds(used < 20000, "500 of the dearest calls take " + used + " bytes");
        before = allocated();
        for (int k = 0; k < 100; k++) {
            x = new CorkBreaks();
        }
        used = (allocated() - before) / 100;
        holds(used < 20000, "an object takes " + used + " bytes");
        before = allocated();
        for (int k = 0; k < 100; k++) {
            x.feed(0x68617264, 0x20732b79, 0x2a6c2b31);
            holds(x.text() >= 0 || k >= 14, "it is a text");
        }
        used = (allocated() - before) / 14;
        holds(used < 2000, "a text takes " + used + " bytes");
    }

    private static void dearest(CorkBreaks x, int times) {
        for (int k = 0; k < times; k++) {
            x.when(k % 8, 20, 0);
            x.which(60, 999, 0);
            x.laid(k % 8, 60, 999);
            x.behind(100, 0);
            x.tree(k % 8, 999, 0);
            x.old(0, 0);
            x.lay(0, 1 + k % 2, 0);
            x.check(30);
            x.keep();
            x.back();
            x.years(100);
        }
    }

    public static void main(String[] args) throws IOException {
        face();
        source();
        room();
        System.out.println(wrong == 0 ? "the language is kept to" : wrong + " things are not so");
        if (wrong != 0) {
            System.exit(1);
        }
    }
}
