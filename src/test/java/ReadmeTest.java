import java.io.File;
import java.io.IOException;
import java.lang.reflect.Method;
import java.lang.reflect.Modifier;
import java.net.URL;
import java.net.URLClassLoader;
import java.nio.file.Files;
import java.nio.file.Path;
import java.util.ArrayList;
import java.util.Comparator;
import java.util.List;
import java.util.Set;
import java.util.TreeSet;
import java.util.function.Consumer;
import java.util.regex.Matcher;
import java.util.regex.Pattern;
import java.util.stream.Stream;
import javax.tools.JavaCompiler;
import javax.tools.ToolProvider;

/**
 * The example of README.md, compiled as it stands there, but that the answers of its calls are handed
 * to this test, which compares them with what stands behind the calls; and the table of tests.
 */
public final class ReadmeTest {
    private static final Pattern BLOCK = Pattern.compile("```java\\n(.*?)```", Pattern.DOTALL);
    private static final Pattern CALL =
            Pattern.compile("\\s*(desk\\.(\\w+)\\(.*\\));\\s*// (-?\\d+|true|false)(?![^:\\s]).*");
    private static final String HEAD = "public final class Example {";
    // The one call that is told to answer nothing: the example writes its texts with it.
    private static final String CALL_OF_WRITE = "            desk.put(c);";

    private final List<String> calls = new ArrayList<>();
    private final List<String> due = new ArrayList<>();
    private final Set<String> used = new TreeSet<>();

    private ReadmeTest() {
    }

    public static void main(String[] args) throws Exception {
        String readme = Files.readString(Path.of("README.md"));
        Matcher block = BLOCK.matcher(readme);
        Check.isTrue("README.md has an example", block.find());
        String example = block.group(1);
        Check.isFalse("and one alone", block.find());

        new ReadmeTest().compareAnswers(example);
        everyTestIsTold(readme);
        Check.end();
    }

    private void compareAnswers(String example) throws Exception {
        List<String> got = answersOf(handingOutAnswers(example));
        Check.same("calls of the example", got.size(), due.size());
        for (int i = 0; i < Math.min(got.size(), due.size()); i++) {
            Check.isTrue("README.md: " + calls.get(i) + " answered " + got.get(i) + ", it says " + due.get(i),
                    got.get(i).equals(due.get(i)));
        }
        Check.isTrue("the example uses " + used, used.equals(face()));
    }

    private String handingOutAnswers(String example) {
        List<String> lines = new ArrayList<>();
        for (String line : example.split("\n")) {
            Matcher call = CALL.matcher(line);
            if (line.equals(HEAD)) {
                lines.add(HEAD + "\n    public static java.util.function.Consumer<String> answers;");
            } else if (call.matches()) {
                calls.add(call.group(1));
                used.add(call.group(2));
                due.add(call.group(3));
                lines.add("answers.accept(String.valueOf(" + call.group(1) + "));");
            } else {
                Check.isFalse("no answer is told of" + line,
                        line.contains("desk.") && !line.equals(CALL_OF_WRITE));
                lines.add(line);
            }
        }
        return String.join("\n", lines);
    }

    private static Set<String> face() {
        Set<String> names = new TreeSet<>();
        for (Method method : MirrorDesk.class.getDeclaredMethods()) {
            if (Modifier.isPublic(method.getModifiers())) {
                names.add(method.getName());
            }
        }
        return names;
    }

    private static List<String> answersOf(String source) throws Exception {
        List<String> answers = new ArrayList<>();
        Path folder = Files.createTempDirectory("readme");
        try {
            Path file = folder.resolve("Example.java");
            Files.writeString(file, source);
            JavaCompiler compiler = ToolProvider.getSystemJavaCompiler();
            int failed = compiler.run(null, null, null, "-proc:none", "-cp",
                    System.getProperty("java.class.path"), "-d", folder.toString(), file.toString());
            Check.same("compiling the example", failed, 0);
            if (failed == 0) {
                run(folder, answers);
            }
        } finally {
            delete(folder);
        }
        return answers;
    }

    private static void run(Path folder, List<String> answers) throws Exception {
        URL[] places = {folder.toUri().toURL()};
        try (URLClassLoader loader = new URLClassLoader(places, ReadmeTest.class.getClassLoader())) {
            Class<?> example = loader.loadClass("Example");
            Consumer<String> taker = answers::add;
            example.getField("answers").set(null, taker);
            example.getMethod("main", String[].class).invoke(null, (Object) new String[0]);
        }
    }

    private static void delete(Path folder) throws IOException {
        try (Stream<Path> all = Files.walk(folder)) {
            for (Path path : all.sorted(Comparator.reverseOrder()).toList()) {
                Files.delete(path);
            }
        }
    }

    private static void everyTestIsTold(String readme) {
        String[] files = new File("src/test/java").list((folder, name) -> name.endsWith("Test.java"));
        Check.isTrue("there are tests", files != null && files.length > 0);
        for (String file : files) {
            String row = "\n| `" + file.replace(".java", "") + "` | ";
            Check.isTrue("README.md tells of " + file, readme.contains(row));
        }
    }
}
