import java.io.IOException;
import java.net.URL;
import java.net.URLClassLoader;
import java.nio.file.Files;
import java.nio.file.Path;
import java.util.ArrayList;
import java.util.List;
import java.util.regex.Matcher;
import java.util.regex.Pattern;
import java.util.stream.Stream;
import javax.tools.ToolProvider;

/** README.md's program compiles and answers so; its tables name each call and each test once. */
public final class ReadmeTest {
    private static final Pattern BLOCK = Pattern.compile("```java\n(.*?)```", Pattern.DOTALL);
    private static final Pattern TOLD =
            Pattern.compile("(?:int (\\w+) = )?(shop\\.\\w+\\(.*\\));\\s*// (-?\\d+)\\b.*");
    private static final Pattern TEST = Pattern.compile("^\\| `(\\w+Test)`", Pattern.MULTILINE);
    private static final Pattern CALL = Pattern.compile("^\\| `(\\w+)\\(", Pattern.MULTILINE);

    private final List<String> calls = new ArrayList<>();
    private final List<Long> due = new ArrayList<>();

    private ReadmeTest() {
    }

    public static void main(String[] args) throws Exception {
        Path root = Path.of(args[0]).toAbsolutePath().resolve("../../../..").normalize();
        String readme = Files.readString(root.resolve("README.md"));
        new ReadmeTest().runProgram(readme);
        namesEachCall(readme);
        namesEachTest(readme, root.resolve("src/test/java"));
        Check.end();
    }

    private void runProgram(String readme) throws Exception {
        long[] got = answers(compiled(program(readme)));
        Check.due("how many calls answer", got.length, due.size());
        for (int i = 0; i < due.size() && i < got.length; i++) {
            Check.due(calls.get(i), got[i], due.get(i));
        }
        Check.holds("the program asks", !due.isEmpty());
    }

    /** All of README's Java, one block behind the other, as one function. */
    private String program(String readme) {
        StringBuilder made = new StringBuilder("public class ReadmeProgram {\n"
                + "public static long[] answers() {\njava.util.List<Long> seen = "
                + "new java.util.ArrayList<>();\n");
        Matcher block = BLOCK.matcher(readme);
        while (block.find()) {
            block.group(1).lines().forEach(line -> made.append(asked(line.strip())).append('\n'));
        }
        return made.append("return seen.stream().mapToLong(v -> v).toArray();\n}\n}\n").toString();
    }

    /** A line whose answer is told notes what it answered; any other stays as it is. */
    private String asked(String line) {
        Matcher m = TOLD.matcher(line);
        if (!m.matches()) {
            Check.holds(line + ": its answer is told", !line.contains("// "));
            return line;
        }
        calls.add(m.group(2));
        due.add(Long.parseLong(m.group(3)));
        if (m.group(1) == null) {
            return "seen.add((long) " + m.group(2) + ");";
        }
        return "int " + m.group(1) + " = " + m.group(2) + ";\nseen.add((long) " + m.group(1) + ");";
    }

    private static Path compiled(String program) throws IOException {
        Path out = Files.createTempDirectory("readme");
        Path source = out.resolve("ReadmeProgram.java");
        Files.writeString(source, program);
        int exit = ToolProvider.getSystemJavaCompiler().run(null, null, null, "-cp",
                System.getProperty("java.class.path"), "-d", out.toString(), source.toString());
        Check.due("javac of README's program", exit, 0);
        return out;
    }

    private static long[] answers(Path out) throws Exception {
        try (URLClassLoader loader = new URLClassLoader(new URL[] {out.toUri().toURL()})) {
            return (long[]) loader.loadClass("ReadmeProgram").getMethod("answers").invoke(null);
        } finally {
            try (Stream<Path> files = Files.list(out)) {
                files.forEach(file -> file.toFile().delete());
            }
            Files.delete(out);
        }
    }

    private static void namesEachCall(String readme) {
        List<String> named = allOf(CALL, readme);
        List<String> there = new ArrayList<>();
        for (java.lang.reflect.Method m : CostsAge.class.getDeclaredMethods()) {
            if (java.lang.reflect.Modifier.isPublic(m.getModifiers())) {
                there.add(m.getName());
            }
        }
        Check.holds("each call once: " + named, sorted(named).equals(sorted(there)));
    }

    private static void namesEachTest(String readme, Path tests) throws IOException {
        List<String> there = new ArrayList<>();
        try (Stream<Path> files = Files.list(tests)) {
            files.map(file -> file.getFileName().toString())
                    .filter(name -> name.endsWith("Test.java"))
                    .forEach(name -> there.add(name.replace(".java", "")));
        }
        List<String> named = allOf(TEST, readme);
        Check.holds("each test once: " + named, sorted(named).equals(sorted(there)));
    }

    private static List<String> allOf(Pattern pattern, String text) {
        return pattern.matcher(text).results().map(found -> found.group(1)).toList();
    }

    private static List<String> sorted(List<String> names) {
        return names.stream().sorted().toList();
    }
}
