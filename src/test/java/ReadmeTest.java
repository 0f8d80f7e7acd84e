import java.io.IOException;
import java.lang.reflect.Method;
import java.lang.reflect.Modifier;
import java.net.URL;
import java.net.URLClassLoader;
import java.nio.file.Files;
import java.nio.file.Path;
import java.util.ArrayList;
import java.util.Comparator;
import java.util.List;
import java.util.function.BiConsumer;
import java.util.function.Supplier;
import java.util.regex.Matcher;
import java.util.regex.Pattern;
import java.util.stream.Stream;
import javax.tools.ToolProvider;

/** What README.md shows of the class's use holds; it shows each call of the face and names each file of the tests. */
public final class ReadmeTest {
    /** The only line of the page's program that needs no answer. */
    private static final String FIRST_LINE = "SealedCupboards room = new SealedCupboards();";
    /** Any other line: a variable if the answer is kept, the call, and the answer up to the first comma. */
    private static final Pattern ANSWERED =
        Pattern.compile("(?:int (\\w+) = )?(room\\.\\w+\\(.*\\)); +// ([^,]+)(?:,.*)?");
    private static final Path TESTS = Path.of("src/test/java");

    private static final Checks checks = new Checks();

    public static void main(String[] args) throws Exception {
        List<String> page = Files.readAllLines(Path.of("README.md"));
        List<String> program = programOf(page);
        everyAnswerHolds(program);
        everyCallIsShown(program);
        everyFileOfTheTestsIsNamed(page);
        checks.end("ReadmeTest");
    }

    /** All of the page's pieces of Java, which are one program. */
    private static List<String> programOf(List<String> page) {
        List<String> program = new ArrayList<>();
        boolean isProgram = false;
        for (String line : page) {
            if (line.startsWith("```")) {
                isProgram = line.equals("```java");
            } else if (isProgram) {
                program.add(line);
            }
        }
        return program;
    }

    private static void everyAnswerHolds(List<String> program) throws Exception {
        Path folder = Files.createTempDirectory("readme");
        try {
            Path source = Files.writeString(folder.resolve("Shown.java"), sourceOf(program));
            int failed = ToolProvider.getSystemJavaCompiler().run(null, null, null,
                "-cp", System.getProperty("java.class.path"), "-d", folder.toString(), source.toString());
            checks.same("README: the compiler's exit code", "0", String.valueOf(failed));
            if (failed == 0) {
                runShown(folder);
            }
        } finally {
            remove(folder);
        }
    }

    /**
     * The page's program, with each call handed over to be judged. It knows public classes alone, since what is loaded
     * from another folder is in another package than the tests.
     */
    private static String sourceOf(List<String> program) {
        StringBuilder source = new StringBuilder("public final class Shown {\n"
            + "    public static void run(" + BiConsumer.class.getName() + "<String, " + Supplier.class.getName()
            + "<Object>> judge) {\n");
        for (String line : program) {
            source.append("        ").append(statementsOf(line)).append('\n');
        }
        return source.append("    }\n}\n").toString();
    }

    private static String statementsOf(String line) {
        Matcher answered = ANSWERED.matcher(line);
        if (!answered.matches()) {
            checks.same("README: a line without an answer", FIRST_LINE, line);
            return line;
        }
        String kept = answered.group(1);
        String call = answered.group(2);
        if (kept == null) {
            return "judge.accept(\"" + line + "\", () -> " + call + ");";
        }
        return "int " + kept + " = " + call + "; judge.accept(\"" + line + "\", () -> " + kept + ");";
    }

    private static void runShown(Path folder) throws Exception {
        BiConsumer<String, Supplier<Object>> judge = ReadmeTest::judge;
        URL[] shown = {folder.toUri().toURL()};
        try (URLClassLoader loader = new URLClassLoader(shown, ReadmeTest.class.getClassLoader())) {
            loader.loadClass("Shown").getMethod("run", BiConsumer.class).invoke(null, judge);
        }
    }

    private static void judge(String line, Supplier<Object> call) {
        Matcher answered = ANSWERED.matcher(line);
        String answer = answered.matches() ? answered.group(3).strip() : "an answer";
        checks.due("README: " + line, answer.replace("throws ", "throws."), call::get);
    }

    private static void remove(Path folder) throws IOException {
        try (Stream<Path> files = Files.walk(folder)) {
            for (Path file : files.sorted(Comparator.reverseOrder()).toList()) {
                Files.delete(file);
            }
        }
    }

    private static void everyCallIsShown(List<String> program) {
        String shown = String.join("\n", program);
        for (Method method : SealedCupboards.class.getDeclaredMethods()) {
            if (Modifier.isPublic(method.getModifiers())) {
                boolean isShown = shown.contains("room." + method.getName() + "(");
                checks.same("README: shows " + method.getName(), "true", String.valueOf(isShown));
            }
        }
    }

    private static void everyFileOfTheTestsIsNamed(List<String> page) throws IOException {
        String whole = String.join("\n", page);
        try (Stream<Path> files = Files.list(TESTS)) {
            for (Path file : files.toList()) {
                String name = file.getFileName().toString().replace(".java", "");
                checks.same("README: names " + name, "true", String.valueOf(whole.contains("`" + name + "`")));
            }
        }
    }
}
