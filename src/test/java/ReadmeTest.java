import java.io.File;
import java.io.IOException;
import java.lang.reflect.Method;
import java.net.URL;
import java.net.URLClassLoader;
import java.nio.file.Files;
import java.nio.file.Path;
import java.util.ArrayList;
import java.util.List;
import java.util.Set;
import java.util.TreeSet;
import java.util.regex.Matcher;
import java.util.regex.Pattern;
import javax.tools.ToolProvider;

/** README.md: the calls that it shows answer what stands behind them, and it names each test and the command for all. */
public final class ReadmeTest {
    private static final Due due = new Due("ReadmeTest");
    private static final Path README = Path.of("README.md"), TESTS = Path.of("src/test/java"), COMMAND = Path.of(".ci/run");
    private static final Pattern ANSWERED = Pattern.compile("x\\.(\\w+\\(.*\\)); +// (-?\\d+)\\b.*");
    private static final Pattern TEST_NAME = Pattern.compile("`(\\w+Test)`");

    private final List<String> calls = new ArrayList<>();
    private final List<Long> wanted = new ArrayList<>();

    /** What the README shows as a program, of which each answer goes to a list. */
    private String program() throws IOException {
        StringBuilder text = new StringBuilder("public final class Shown {\n");
        text.append("public static void run(java.util.List<Long> answers) {\n");
        boolean shown = false;
        for (String line : Files.readAllLines(README)) {
            if (line.startsWith("```")) {
                shown = line.equals("```java");
            } else if (shown) {
                text.append(translated(line)).append('\n');
            }
        }
        return text.append("}\n}\n").toString();
    }

    private String translated(String line) {
        Matcher call = ANSWERED.matcher(line);
        if (!call.matches()) {
            due.isTrue("README.md: an answer stands behind " + line, !line.startsWith("x."));
            return line;
        }
        calls.add(call.group(1));
        wanted.add(Long.valueOf(call.group(2)));
        return "answers.add((long) x." + call.group(1) + ");";
    }

    private static List<Long> answersOf(String program) throws IOException, ReflectiveOperationException {
        Path directory = Files.createTempDirectory("readme");
        Path source = directory.resolve("Shown.java"), compiled = directory.resolve("Shown.class");
        List<Long> answers = new ArrayList<>();
        try {
            Files.writeString(source, program);
            int fault = ToolProvider.getSystemJavaCompiler().run(null, null, null, "-proc:none", "-cp",
                System.getProperty("java.class.path"), "-d", directory.toString(), source.toString());
            due.is("README.md: compiling what it shows", fault, 0);
            try (URLClassLoader loader = new URLClassLoader(new URL[] {directory.toUri().toURL()})) {
                Method run = loader.loadClass("Shown").getMethod("run", List.class);
                run.invoke(null, answers);
            }
        } finally {
            Files.deleteIfExists(compiled);
            Files.deleteIfExists(source);
            Files.deleteIfExists(directory);
        }
        return answers;
    }

    private void answersAreAsShown() throws IOException, ReflectiveOperationException {
        List<Long> answers = answersOf(program());
        due.isTrue("README.md shows calls", calls.size() > 50);
        due.is("README.md: how many calls answer", answers.size(), calls.size());
        for (int i = 0; i < calls.size() && i < answers.size(); i++) {
            due.is("README.md: " + calls.get(i), answers.get(i), wanted.get(i));
        }
    }

    private static void testsAreNamed() throws IOException {
        String text = Files.readString(README);
        Set<String> named = new TreeSet<>();
        Matcher name = TEST_NAME.matcher(text);
        while (name.find()) {
            named.add(name.group(1));
        }
        Set<String> there = new TreeSet<>();
        for (File file : TESTS.toFile().listFiles()) {
            if (file.getName().endsWith("Test.java")) {
                there.add(file.getName().substring(0, file.getName().length() - ".java".length()));
            }
        }
        due.isTrue("README.md names " + named + ", there are " + there, named.equals(there));
        due.isTrue("README.md names the command for all tests", text.contains("\n    " + COMMAND + "\n"));
        due.isTrue(COMMAND + " can be run", Files.isExecutable(COMMAND));
    }

    public static void main(String[] args) throws IOException, ReflectiveOperationException {
        new ReadmeTest().answersAreAsShown();
        testsAreNamed();
        due.end();
    }
}
