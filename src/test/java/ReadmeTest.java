import java.io.File;
import java.io.IOException;
import java.net.URL;
import java.net.URLClassLoader;
import java.nio.file.Files;
import java.nio.file.Path;
import java.util.ArrayList;
import java.util.List;
import java.util.TreeSet;
import java.util.regex.Matcher;
import java.util.regex.Pattern;
import javax.tools.JavaCompiler;
import javax.tools.ToolProvider;

/** What README.md says: its examples are compiled, run and answer what stands behind them; its tests are there. */
public final class ReadmeTest {
    private static final Check CHECK = new Check();
    private static final Path README = Path.of("README.md");
    private static final Path TESTS = Path.of("src", "test", "java");
    private static final Pattern ANSWER = Pattern.compile("\\s*(x\\..*);\\s*// (-?\\d+)(: .*)?");
    private static final Pattern CALL = Pattern.compile("x\\.(\\w+)\\(");
    private static final Pattern NAMED = Pattern.compile("`(\\w+Test)`");
    private static final Pattern NUMBERED = Pattern.compile("`([A-Z]+)` \\((-\\d+): ");

    private final List<String> asked = new ArrayList<>();
    private final List<Long> due = new ArrayList<>();

    public static void main(String[] args) throws ReflectiveOperationException, IOException {
        new ReadmeTest().examples();
        everyCallIsShown();
        refusals();
        tests();
        CHECK.end();
    }

    private void examples() throws ReflectiveOperationException, IOException {
        StringBuilder code = new StringBuilder("public class ReadmeCode {\n public static java.util.List<Long> run() {\n");
        code.append("java.util.List<Long> told = new java.util.ArrayList<>();\n");
        boolean inCode = false;
        for (String line : Files.readAllLines(README)) {
            if (line.startsWith("```")) {
                inCode = line.equals("```java");
            } else if (inCode) {
                code.append(withAnswer(line)).append('\n');
            }
        }
        List<Long> told = answersOf(code.append("return told;\n}\n}\n").toString());
        CHECK.due("examples that answered", told.size(), due.size());
        CHECK.due("there are examples", due.isEmpty() ? 0 : 1, 1);
        for (int row = 0; row < told.size(); row++) {
            CHECK.due("README.md: " + asked.get(row), told.get(row), due.get(row));
        }
    }

    private String withAnswer(String line) {
        Matcher found = ANSWER.matcher(line);
        if (!found.matches()) {
            return line;
        }
        asked.add(found.group(1));
        due.add(Long.valueOf(found.group(2)));
        return "told.add((long) " + found.group(1) + ");";
    }

    @SuppressWarnings("unchecked")
    private static List<Long> answersOf(String code) throws ReflectiveOperationException, IOException {
        Path made = Files.createTempDirectory("readme");
        Path file = Files.writeString(made.resolve("ReadmeCode.java"), code);
        JavaCompiler compiler = ToolProvider.getSystemJavaCompiler();
        int failed = compiler.run(null, null, null, "-cp", System.getProperty("java.class.path"), "-d", made.toString(),
                file.toString());
        CHECK.due("README.md: the examples compile", failed, 0);
        if (failed != 0) {
            return List.of();
        }
        try (URLClassLoader loader = new URLClassLoader(new URL[] {made.toUri().toURL()})) {
            return (List<Long>) loader.loadClass("ReadmeCode").getMethod("run").invoke(null);
        } finally {
            for (File each : made.toFile().listFiles()) {
                each.delete();
            }
            Files.delete(made);
        }
    }

    private static void everyCallIsShown() throws IOException {
        TreeSet<String> shown = namesIn(CALL, Files.readString(README));
        for (java.lang.reflect.Method method : SoundToll.class.getMethods()) {
            if (method.getDeclaringClass() == SoundToll.class) {
                CHECK.due("README.md shows " + method.getName(), shown.contains(method.getName()) ? 1 : 0, 1);
            }
        }
    }

    private static TreeSet<String> namesIn(Pattern pattern, String text) {
        TreeSet<String> names = new TreeSet<>();
        Matcher found = pattern.matcher(text);
        while (found.find()) {
            names.add(found.group(1));
        }
        return names;
    }

    private static void refusals() throws ReflectiveOperationException, IOException {
        Matcher found = NUMBERED.matcher(Files.readString(README));
        int refusals = 0;
        while (found.find()) {
            refusals++;
            CHECK.due("README.md: " + found.group(1), SoundToll.class.getField(found.group(1)).getInt(null),
                    Integer.parseInt(found.group(2)));
        }
        CHECK.due("README.md: refusals", refusals, 4);
    }

    private static void tests() throws IOException {
        TreeSet<String> named = namesIn(NAMED, Files.readString(README));
        TreeSet<String> there = new TreeSet<>();
        for (String name : TESTS.toFile().list()) {
            if (name.endsWith("Test.java")) {
                there.add(name.replace(".java", ""));
            }
        }
        CHECK.due("README.md names the tests " + there + ", and no others: " + named, named.equals(there) ? 1 : 0, 1);
    }
}
