import java.nio.file.Files;
import java.nio.file.Path;
import java.util.ArrayList;
import java.util.List;
import java.util.TreeSet;
import java.util.regex.Matcher;
import java.util.regex.Pattern;
import java.util.stream.Stream;

/** README.md: its calls give the answers that it names, and its table has all the tests. */
public final class ReadmeTest {
    private static final Path README = Path.of("README.md");
    private static final Path TESTS = Path.of("src/test/java");
    private static final Pattern CALL = Pattern.compile("coder\\.(\\w+)\\(([^)]*)\\); *// ([\\w-]+)([ :;,].*)?");
    private static final List<String> FACE = List.of("frame", "row", "encode", "size", "code", "poke", "cut", "decode",
        "number", "sample", "rebuilt", "context", "runIndex");

    public static void main(String[] args) throws Exception {
        List<String> readme = Files.readAllLines(README);
        calls(readme);
        table(readme);
        wayToRun(readme);
        Check.end();
    }

    // All blocks are one run: each call behind the one that is written above it.
    private static void calls(List<String> readme) {
        GradientCoder coder = new GradientCoder();
        TreeSet<String> called = new TreeSet<>();
        for (String line : blocks(readme, "java")) {
            if (line.isBlank()) {
                continue;
            }
            if (line.startsWith("GradientCoder coder = new GradientCoder();")) {
                coder = new GradientCoder();
                continue;
            }
            Matcher call = CALL.matcher(line);
            if (!call.matches()) {
                Check.same("README.md", line, "a call and its answer");
                continue;
            }
            String before = Face.all(coder);
            String got = answer(coder, call.group(1), numbers(call.group(2)));
            Check.same("README.md: " + line, got, call.group(3));
            if (got.equals("false") || got.equals("throws")) {
                Check.same("README.md: behind " + line, Face.all(coder), before);
            }
            called.add(call.group(1));
        }
        Check.same("README.md: what is called", called.toString(), new TreeSet<>(FACE).toString());
    }

    private static List<String> blocks(List<String> readme, String kind) {
        List<String> lines = new ArrayList<>();
        boolean isIn = false;
        for (String line : readme) {
            if (line.startsWith("```")) {
                isIn = line.equals("```" + kind);
            } else if (isIn) {
                lines.add(line);
            }
        }
        return lines;
    }

    private static long[] numbers(String arguments) {
        if (arguments.isBlank()) {
            return new long[0];
        }
        String[] parts = arguments.split(", *");
        long[] numbers = new long[parts.length];
        for (int i = 0; i < parts.length; i++) {
            String part = parts[i].replace("L", "");
            numbers[i] = part.startsWith("0x") ? Long.parseUnsignedLong(part.substring(2), 16) : Long.parseLong(part);
        }
        return numbers;
    }

    private static String answer(GradientCoder coder, String name, long[] of) {
        try {
            return switch (name) {
                case "frame" -> "" + coder.frame((int) of[0], (int) of[1], (int) of[2], (int) of[3]);
                case "row" -> "" + coder.row((int) of[0], of[1]);
                case "encode" -> "" + coder.encode();
                case "size" -> "" + coder.size();
                case "code" -> "" + coder.code((int) of[0]);
                case "poke" -> "" + coder.poke((int) of[0], (int) of[1]);
                case "cut" -> "" + coder.cut((int) of[0]);
                case "decode" -> "" + coder.decode();
                case "number" -> "" + coder.number((int) of[0]);
                case "sample" -> "" + coder.sample((int) of[0], (int) of[1]);
                case "rebuilt" -> "" + coder.rebuilt((int) of[0], (int) of[1]);
                case "context" -> "" + coder.context((int) of[0], (int) of[1]);
                case "runIndex" -> "" + coder.runIndex();
                default -> "there is no such call";
            };
        } catch (IllegalArgumentException e) {
            return "throws";
        }
    }

    private static void table(List<String> readme) throws Exception {
        TreeSet<String> named = new TreeSet<>();
        for (String line : readme) {
            if (line.startsWith("| `")) {
                Matcher test = Pattern.compile("`(\\w+Test)`").matcher(line.substring(0, line.indexOf('|', 1)));
                while (test.find()) {
                    named.add(test.group(1));
                }
            }
        }
        TreeSet<String> there = new TreeSet<>();
        try (Stream<Path> files = Files.list(TESTS)) {
            files.map(file -> file.getFileName().toString()).filter(name -> name.endsWith("Test.java"))
                .forEach(name -> there.add(name.replace(".java", "")));
        }
        Check.same("README.md: the table of tests", named.toString(), there.toString());
    }

    // Where a test has another name than its file, or no main, .ci/run would not find it.
    private static void wayToRun(List<String> readme) throws Exception {
        Check.yes("README.md: .ci/run", blocks(readme, "sh").contains(".ci/run"));
        Check.yes(".ci/run can be run", Files.isExecutable(Path.of(".ci/run")));
        try (Stream<Path> files = Files.list(TESTS)) {
            for (Path file : files.toList()) {
                String name = file.getFileName().toString().replace(".java", "");
                boolean isTest = Files.readString(file).contains("public static void main(");
                Check.same(file + " is a test", isTest ? 1 : 0, name.endsWith("Test") ? 1 : 0);
            }
        }
    }
}
