import java.io.IOException;
import java.lang.reflect.InvocationTargetException;
import java.lang.reflect.Method;
import java.lang.reflect.Modifier;
import java.net.URL;
import java.net.URLClassLoader;
import java.nio.file.Files;
import java.nio.file.Path;
import java.util.ArrayList;
import java.util.Collections;
import java.util.Comparator;
import java.util.List;
import java.util.Map;
import java.util.Set;
import java.util.TreeMap;
import java.util.TreeSet;
import java.util.function.BiConsumer;
import java.util.regex.Matcher;
import java.util.regex.Pattern;
import java.util.stream.Stream;
import javax.tools.ToolProvider;

/** What README.md shows is run as it stands, and answers what README.md says. */
public final class ReadmeTest {
    private static final Path PAGE = Path.of("README.md");
    private static final Path CLASS = Path.of("src", "main", "java", "ModelCopies.java");
    private static final Path TESTS = Path.of("src", "test", "java");

    private static final String CALLS = "## The calls, java";
    private static final String PROGRAM = "## In a program, java";
    private static final String COMMANDS = "## In a program, sh";
    private static final String PRINTED = "## In a program, text";
    private static final String WAY_TO_RUN_TESTS = "## Tests, sh";

    private static final Pattern CALL = Pattern.compile(
            "(?:(?:int|boolean) (?<name>\\w+) = )?(?<call>work\\.(?<method>\\w+)\\(.*?\\));(?<comment>.*)");
    private static final Pattern ANSWER = Pattern.compile(" +// (?<answer>-?\\d+|true|false|throws \\w+)(?:: .+)?");
    private static final Pattern TEST_IN_TABLE = Pattern.compile("\\| `(\\w+)` \\|.*");

    /** A line of one of the page's blocks, each named by its section and its language. */
    private record Shown(int number, String block, String text) {
    }

    private final List<String> page;
    private final List<Shown> shown;
    private final Path folder;
    /** By the line of the page. */
    private final Map<Integer, String> due = new TreeMap<>();
    private final Map<Integer, String> got = new TreeMap<>();
    private final Set<String> called = new TreeSet<>();
    private int asked = 0;
    private int wrong = 0;

    private ReadmeTest(List<String> page, Path folder) {
        this.page = page;
        this.shown = linesInBlocks(page);
        this.folder = folder;
    }

    public static void main(String[] args) throws Exception {
        Path folder = Files.createTempDirectory("readme");
        boolean isAsDue;
        try {
            isAsDue = new ReadmeTest(Files.readAllLines(PAGE), folder).isAsDue();
        } finally {
            delete(folder);
        }
        System.exit(isAsDue ? 0 : 1);
    }

    private boolean isAsDue() throws Exception {
        noBlockGoesWithoutATest();
        callsAnswerAsThePageSays();
        eachMethodIsCalled();
        theProgramPrintsWhatThePageSays();
        theWayToRunTheTestsIsThere();
        theTableNamesEachTest();
        System.out.println("ReadmeTest: " + asked + " answers, " + wrong + " not as due");
        return wrong == 0;
    }

    private void same(String what, Object answer, Object want) {
        asked++;
        if (!want.equals(answer)) {
            wrong++;
            System.out.println(what + ": " + answer + ", due is " + want);
        }
    }

    private static void delete(Path folder) throws IOException {
        try (Stream<Path> files = Files.walk(folder)) {
            for (Path file : files.sorted(Comparator.reverseOrder()).toList()) {
                Files.delete(file);
            }
        }
    }

    // ---- the page

    private static List<Shown> linesInBlocks(List<String> page) {
        List<Shown> lines = new ArrayList<>();
        String section = "";
        String language = "";
        for (int number = 1; number <= page.size(); number++) {
            String line = page.get(number - 1);
            if (line.startsWith("```")) {
                language = language.isEmpty() ? line.replaceFirst("```", ", ") : "";
            } else if (!language.isEmpty()) {
                lines.add(new Shown(number, section + language, line));
            } else if (line.startsWith("## ")) {
                section = line;
            }
        }
        return lines;
    }

    private List<Shown> block(String name) {
        return shown.stream().filter(line -> line.block().equals(name)).toList();
    }

    private List<String> textOf(String block) {
        return block(block).stream().map(Shown::text).toList();
    }

    private void noBlockGoesWithoutATest() {
        Set<String> blocks = new TreeSet<>();
        shown.forEach(line -> blocks.add(line.block()));
        same("the blocks of the page", blocks,
                new TreeSet<>(Set.of(CALLS, PROGRAM, COMMANDS, PRINTED, WAY_TO_RUN_TESTS)));
    }

    // ---- the calls

    private void callsAnswerAsThePageSays() throws Exception {
        Path file = Files.writeString(folder.resolve("Calls.java"), sourceOfCalls());
        int code = ToolProvider.getSystemJavaCompiler().run(null, null, null, "-d", folder.toString(),
                "-cp", System.getProperty("java.class.path"), file.toString());
        same("the compiler takes the calls of the page", code, 0);
        if (code == 0) {
            runCalls();
        }
        for (int line : due.keySet()) {
            same("README.md:" + line + ": " + page.get(line - 1), got.get(line), due.get(line));
        }
    }

    /** Each line stays at its number, so that what the compiler and a stack trace say leads to the page. */
    private String sourceOfCalls() {
        List<String> source = new ArrayList<>(Collections.nCopies(page.size(), ""));
        source.set(0, "import java.util.function.BiConsumer;"
                + " public class Calls { public static void run(BiConsumer<Integer, Object> told) {");
        for (Shown line : block(CALLS)) {
            source.set(line.number() - 1, statementsFor(line));
        }
        source.add("} }");
        return String.join("\n", source);
    }

    private String statementsFor(Shown line) {
        Matcher call = CALL.matcher(line.text());
        if (!call.matches()) {
            boolean hasOtherCall = line.text().contains("work.");
            same("README.md:" + line.number() + ": has a call that is not alone in its line", hasOtherCall, false);
            return line.text();
        }
        Matcher answer = ANSWER.matcher(call.group("comment"));
        due.put(line.number(), answer.matches() ? answer.group("answer") : "an answer on the page");
        called.add(call.group("method"));
        if (call.group("name") != null) {
            return line.text().substring(0, call.start("comment")) + told(line, call.group("name"));
        }
        return "try { " + told(line, call.group("call")) + " } catch (RuntimeException thrown) { "
                + told(line, "thrown") + " }";
    }

    private static String told(Shown line, String value) {
        return " told.accept(" + line.number() + ", " + value + ");";
    }

    private void runCalls() throws Exception {
        BiConsumer<Integer, Object> told = (line, answer) -> got.put(line, answerOf(answer));
        try (URLClassLoader loader = new URLClassLoader(new URL[] {folder.toUri().toURL()})) {
            loader.loadClass("Calls").getMethod("run", BiConsumer.class).invoke(null, told);
        } catch (InvocationTargetException e) {
            same("the calls of the page end", e.getCause().toString(), "no exception");
        }
    }

    private static String answerOf(Object answer) {
        if (answer instanceof RuntimeException e) {
            return State.thrown(e.getClass()) + (Checks.isThrownByTheClass(e) ? "" : ", but not by the class itself");
        }
        return answer.toString();
    }

    private void eachMethodIsCalled() {
        for (Method method : ModelCopies.class.getDeclaredMethods()) {
            if (Modifier.isPublic(method.getModifiers())) {
                same("the page calls " + method.getName(), called.contains(method.getName()), true);
            }
        }
    }

    // ---- the program, and the tests

    private void theProgramPrintsWhatThePageSays() throws Exception {
        Path place = folder.resolve("program");
        Path copy = place.resolve(CLASS);
        Files.createDirectories(copy.getParent());
        Files.copy(CLASS, copy);
        Files.write(place.resolve("Example.java"), textOf(PROGRAM));
        Process process = new ProcessBuilder("sh", "-e", "-c", String.join("\n", textOf(COMMANDS)))
                .directory(place.toFile()).redirectErrorStream(true).start();
        List<String> printed = process.inputReader().lines().toList();
        same("the commands of the page end with", process.waitFor(), 0);
        same("the program of the page prints", printed, textOf(PRINTED));
    }

    /** That it works on a clean checkout is seen when it runs there, and this test with it. */
    private void theWayToRunTheTestsIsThere() {
        same("the way to run the tests", textOf(WAY_TO_RUN_TESTS), List.of(".ci/run"));
        same("can .ci/run be executed", Files.isExecutable(Path.of(".ci", "run")), true);
    }

    private void theTableNamesEachTest() throws IOException {
        Set<String> named = new TreeSet<>();
        for (String line : page) {
            Matcher row = TEST_IN_TABLE.matcher(line);
            if (row.matches()) {
                named.add(row.group(1) + ".java");
            }
        }
        same("the tests in the table", named, testsThere());
    }

    private static Set<String> testsThere() throws IOException {
        try (Stream<Path> files = Files.list(TESTS)) {
            return new TreeSet<>(files.map(file -> file.getFileName().toString())
                    .filter(name -> name.endsWith("Test.java")).toList());
        }
    }
}
