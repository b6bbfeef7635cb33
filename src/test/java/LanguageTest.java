import java.lang.management.ManagementFactory;
import java.lang.reflect.Constructor;
import java.lang.reflect.Field;
import java.lang.reflect.Method;
import java.lang.reflect.Modifier;
import java.nio.charset.StandardCharsets;
import java.nio.file.Files;
import java.nio.file.Path;
import java.util.Set;
import java.util.TreeSet;
import java.util.regex.Matcher;
import java.util.regex.Pattern;

/** LANGUAGE.md: the rules of it that can be seen from the class as it is loaded, from its text, and from its calls. */
public final class LanguageTest {
    private static final Path SOURCE = Path.of("src/main/java/GradientCoder.java");
    private static final Set<Class<?>> CONSTANTS = Set.of(int.class, long.class, boolean.class, char.class, String.class,
        int[].class, long[].class, char[].class, byte[].class);

    public static void main(String[] args) throws Exception {
        classes();
        names();
        String source = Files.readString(SOURCE, StandardCharsets.ISO_8859_1);
        Check.same("characters that are not plain", found(source, "([^\\n\\x20-\\x7e])"), "[]");
        String code = withoutTextsAndComments(source);
        library(code);
        exceptions(code);
        words(code);
        methods(code);
        room();
        Check.end();
    }

    // Rules 2, 5, 11: static state, and how many of all there are (FaceTest has what can be seen from outside).
    private static void classes() {
        Class<?>[] inside = GradientCoder.class.getDeclaredClasses();
        Check.yes("classes: " + inside.length, inside.length < 12);
        countsOf(GradientCoder.class);
        for (Class<?> one : inside) {
            Check.same(one + " has classes", one.getDeclaredClasses().length, 0);
            countsOf(one);
        }
    }

    private static void countsOf(Class<?> one) {
        int fields = 0;
        for (Field field : one.getDeclaredFields()) {
            if (Modifier.isStatic(field.getModifiers())) {
                Check.yes(field + " is final", Modifier.isFinal(field.getModifiers()));
                Check.yes(field + " is a constant", CONSTANTS.contains(field.getType()));
            } else {
                fields++;
            }
        }
        Check.yes(one + " has " + fields + " fields", fields <= 20);
        for (Method method : one.getDeclaredMethods()) {
            Check.yes(method + " takes at most seven", method.getParameterCount() <= 7);
        }
        for (Constructor<?> constructor : one.getDeclaredConstructors()) {
            Check.yes(constructor + " takes at most seven", constructor.getParameterCount() <= 7);
        }
    }

    // Rule 1: "No private method bears the name of a public one."
    private static void names() {
        TreeSet<String> face = new TreeSet<>();
        for (Method method : GradientCoder.class.getDeclaredMethods()) {
            if (Modifier.isPublic(method.getModifiers())) {
                face.add(method.getName());
            }
        }
        for (Class<?> one : GradientCoder.class.getDeclaredClasses()) {
            for (Method method : one.getDeclaredMethods()) {
                Check.no(method + " has a name of the face", face.contains(method.getName()));
            }
        }
        for (Method method : GradientCoder.class.getDeclaredMethods()) {
            boolean isPublic = Modifier.isPublic(method.getModifiers());
            Check.no(method + " has a name of the face", !isPublic && face.contains(method.getName()));
        }
    }

    private static String withoutTextsAndComments(String source) {
        return source.replaceAll("(?s)/\\*.*?\\*/", "").replaceAll("\"[^\"\n]*\"", "\"\"").replaceAll("//[^\n]*", "");
    }

    // Rules 3, 4, 13: no package, and of the library only what is listed there and used here.
    private static void library(String code) {
        Check.same("imports", found(code, "(?m)^\\s*import\\s+([^;]*);"), "[java.util.Arrays]");
        Check.same("package", found(code, "(?m)^\\s*(package)\\b"), "[]");
        Check.same("qualified names", found(code.replace("import java.util.Arrays;", ""), "\\b(java[x]?\\.\\w+)"), "[]");
        Check.same("classes of the library", found(code, "\\b(?!" + own() + ")([A-Z][a-z]\\w*)\\."),
            "[Arrays, Math, System]");
        Check.same("System", found(code, "\\bSystem\\.(\\w+)"), "[arraycopy]");
        Check.same("Arrays", found(code, "\\bArrays\\.(\\w+)"), "[fill]");
        Check.same("Math", found(code, "\\bMath\\.(\\w+)"), "[abs, max, min]");
    }

    private static String own() {
        StringBuilder names = new StringBuilder("GradientCoder\\b");
        for (Class<?> one : GradientCoder.class.getDeclaredClasses()) {
            names.append('|').append(one.getSimpleName()).append("\\b");
        }
        return names.toString();
    }

    private static String found(String code, String pattern) {
        TreeSet<String> found = new TreeSet<>();
        Matcher matcher = Pattern.compile(pattern).matcher(code);
        while (matcher.find()) {
            found.add(matcher.group(1));
        }
        return found.toString();
    }

    // Rule 6, and the document: this exception alone, with a written text, and it is caught nowhere.
    private static void exceptions(String code) {
        Check.same("throws", found(code, "\\bthrow\\b([^;]*);"), "[ new IllegalArgumentException(\"\")]");
        Check.same("declared", found(code, "\\bthrows\\s+([^{;]*?)\\s*[{;]"), "[IllegalArgumentException]");
        Check.same("caught", found(code, "\\b(try|catch|finally)\\b"), "[]");
    }

    // Rules 2, 6, 12: what the language has and the program may not use, or has no need of.
    private static void words(String code) {
        Check.same("words", found(code, "\\b(synchronized|assert|native|volatile|transient|var|NaN|instanceof)\\b"), "[]");
        Check.same("lambdas and references", found(code, "(->|::)"), "[]");
        Check.same("overridden of Object", found(code, "\\b(equals|hashCode|toString|finalize)\\b"), "[]");
        // Made by the constructors alone: all are fields, and nothing else is made but what is thrown.
        String left = code.replaceAll("throw new \\w+", "");
        left = left.replaceAll("(?m)^ +final [\\w\\[\\]]+ \\w+ = new [^;]*;", "");
        Check.same("made elsewhere", found(left, "(?m)^ *([^\\n]*\\bnew [^\\n]*)"),
            "[coding = new Coding();, reading = new Reading();]");
    }

    // Rule 11: "Methods stay short (some sixty lines)".
    private static void methods(String code) {
        String[] lines = code.split("\n", -1);
        int seen = 0;
        for (int i = 0; i < lines.length; i++) {
            Matcher begin = Pattern.compile("^( {4}| {8})(?! )(?!.*\\b(class|new)\\b)\\S.*\\).*\\{\\s*$").matcher(lines[i]);
            if (begin.find()) {
                int end = i;
                while (end < lines.length && !lines[end].equals(begin.group(1) + "}")) {
                    end++;
                }
                Check.yes("line " + (i + 1) + ": a method of " + (end - i + 1) + " lines", end - i < 60);
                seen++;
            }
        }
        Check.yes("methods are found: " + seen, seen >= 60);
    }

    // Rule 12: no call makes an object or an array; one that throws makes what it throws.
    private static void room() {
        GradientCoder coder = new GradientCoder();
        // Where classes are loaded and tables of the machine are filled, the first calls make something.
        allCalls(coder);
        allCalls(coder);
        com.sun.management.ThreadMXBean bean =
            (com.sun.management.ThreadMXBean) ManagementFactory.getThreadMXBean();
        bean.getCurrentThreadAllocatedBytes();
        long before = bean.getCurrentThreadAllocatedBytes();
        for (int i = 0; i < 200; i++) {
            allCalls(coder);
        }
        long made = bean.getCurrentThreadAllocatedBytes() - before;
        // Were it one array of 64 in one of the calls, it would be 200 * 272.
        Check.yes(made + " bytes are made by 200 times all calls", made < 16000);
    }

    private static int allCalls(GradientCoder coder) {
        int sum = coder.frame(8, 8, 255, 1) ? 1 : 0;
        for (int y = 0; y < 8; y++) {
            sum += coder.row(y, 0x13ff40c927e085a1L * (2 * y + 1)) ? 1 : 0;
        }
        sum += coder.encode() + coder.size() + coder.code(9) + coder.decode();
        sum += coder.number(4) + coder.sample(7, 7) + coder.rebuilt(7, 7) + coder.context(366, 0) + coder.runIndex();
        sum += coder.frame(9, 9, 9, 9) || coder.row(8, 0) || coder.poke(-1, 0) || coder.cut(-1) ? 1 : 0;
        sum += coder.poke(0, 255) && coder.cut(100) ? 1 : 0;
        return sum + coder.code(-1) + coder.number(10) + coder.sample(8, 8) + coder.rebuilt(8, 8) + coder.context(0, 5);
    }
}
