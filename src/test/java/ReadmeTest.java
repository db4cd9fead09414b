import java.io.IOException;
import java.lang.reflect.Method;
import java.lang.reflect.Modifier;
import java.net.URL;
import java.net.URLClassLoader;
import java.nio.file.Files;
import java.nio.file.Path;
import java.util.ArrayList;
import java.util.Arrays;
import java.util.List;
import java.util.Set;
import java.util.TreeSet;
import java.util.regex.Matcher;
import java.util.regex.Pattern;
import java.util.stream.Collectors;
import java.util.stream.Stream;
import javax.tools.JavaCompiler;
import javax.tools.ToolProvider;

/** What README.md says holds: its example, its tables of calls and tests, and its way to run the tests. */
public final class ReadmeTest {
    private static final Due due = new Due("ReadmeTest");
    private static final Path TESTS = Path.of("src/test/java"), RUN = Path.of(".ci/run");
    private static final int PROMISES = 49;

    private ReadmeTest() {
    }

    public static void main(String[] args) throws IOException, ReflectiveOperationException {
        String readme = Files.readString(Path.of("README.md"));
        example(readme);
        calls(readme);
        tests(readme);
        wayToRun(readme);
        due.end();
    }

    /** The example's own class tells its answers here. */
    public static long answer(String call, long got, long want) {
        due.is(call, got, want);
        return got;
    }

    private static void yes(String what, boolean holds) {
        due.is(what, holds ? 1 : 0, 1);
    }

    // ---- the example

    private static void example(String readme) throws IOException, ReflectiveOperationException {
        Matcher command = Pattern.compile("\n    javac -d out (\\S+)\n").matcher(readme);
        Matcher block = Pattern.compile("```java\n(.*?)```", Pattern.DOTALL).matcher(readme);
        yes("README.md says how to compile the class", command.find());
        yes("an example stands in README.md", block.find());
        String plain = block.group(1);
        String looked = plain.lines().map(ReadmeTest::lookedAt).collect(Collectors.joining("\n"));
        Path out = Files.createTempDirectory("readme");
        try {
            yes("the class compiles so", compiles(Path.of(command.group(1)), out, ""));
            yes("the example compiles against it", compiles(source(out, "Example", plain), out, out.toString()));
            String tests = System.getProperty("java.class.path");
            yes("its answers can be looked at", compiles(source(out, "Answered", looked), out, tests));
            runAnswered(out);
        } finally {
            removeAll(out);
        }
    }

    /** A line of the example; if it calls, what it answers is also held against what its comment begins with. */
    private static String lookedAt(String line) {
        Matcher call = Pattern.compile("\\s*(?:int (\\w+) = )?(x\\.\\w+\\(.*\\));\\s*// (-?\\d+|[A-Z]+)\\b.*").matcher(line);
        if (!call.matches()) {
            yes("a call of the example tells its answer: " + line, !line.contains("x."));
            return line;
        }
        String want = call.group(3).matches("[A-Z]+") ? "DoorCalls." + call.group(3) : call.group(3);
        String kept = call.group(1) == null ? "" : "int " + call.group(1) + " = (int) ";
        return kept + "ReadmeTest.answer(\"" + call.group(2) + "\", " + call.group(2) + ", " + want + ");";
    }

    private static Path source(Path out, String name, String lines) throws IOException {
        String head = "public final class " + name + " {\npublic static void main(String[] args) {\n";
        return Files.writeString(out.resolve(name + ".java"), head + lines + "\n}\n}\n");
    }

    private static boolean compiles(Path source, Path out, String classes) {
        JavaCompiler compiler = ToolProvider.getSystemJavaCompiler();
        return compiler.run(null, null, null, "-cp", classes, "-d", out.toString(), source.toString()) == 0;
    }

    private static void runAnswered(Path out) throws IOException, ReflectiveOperationException {
        try (URLClassLoader loader = new URLClassLoader(new URL[] {out.toUri().toURL()})) {
            loader.loadClass("Answered").getMethod("main", String[].class).invoke(null, (Object) new String[0]);
        }
    }

    private static void removeAll(Path out) throws IOException {
        try (Stream<Path> files = Files.list(out)) {
            for (Path file : files.toList()) {
                Files.delete(file);
            }
        }
        Files.delete(out);
    }

    // ---- the tables

    private static List<String> rows(String readme, String heading) {
        int start = readme.indexOf("| " + heading + " |");
        yes("a table of " + heading, start >= 0);
        return readme.substring(Math.max(start, 0)).lines().skip(2).takeWhile(line -> line.startsWith("|")).toList();
    }

    private static Set<String> found(String pattern, String text) {
        Set<String> all = new TreeSet<>();
        Matcher matcher = Pattern.compile(pattern).matcher(text);
        while (matcher.find()) {
            all.add(matcher.group(1));
        }
        return all;
    }

    private static void calls(String readme) {
        Set<String> face = Arrays.stream(DoorCalls.class.getDeclaredMethods())
            .filter(method -> Modifier.isPublic(method.getModifiers())).map(Method::getName)
            .collect(Collectors.toCollection(TreeSet::new));
        List<String> named = new ArrayList<>();
        for (String row : rows(readme, "calls")) {
            named.addAll(found("`(\\w+)`", row.split("\\|")[1]));
        }
        due.same("the calls that README.md names", new TreeSet<>(named).toString(), face.toString());
        due.is("calls that it names", named.size(), face.size());
    }

    private static void tests(String readme) throws IOException {
        Set<String> there;
        try (Stream<Path> files = Files.list(TESTS)) {
            there = files.map(file -> file.getFileName().toString()).filter(name -> name.endsWith("Test.java"))
                .map(name -> name.replace(".java", "")).collect(Collectors.toCollection(TreeSet::new));
        }
        Set<String> named = new TreeSet<>();
        Set<Integer> promises = new TreeSet<>();
        for (String row : rows(readme, "test")) {
            named.addAll(found("^\\| (\\w+) \\|", row));
            promises.addAll(promisesOf(row));
        }
        due.same("the tests that README.md names", named.toString(), there.toString());
        due.is("promises that it names", promises.size(), PROMISES);
        for (String helper : found("`([A-Z][a-z]\\w+)`", readme.substring(readme.indexOf("## Tests")))) {
            yes(helper + " is there", Files.exists(TESTS.resolve(helper + ".java")));
        }
    }

    private static Set<Integer> promisesOf(String row) {
        Set<Integer> all = new TreeSet<>();
        Matcher told = Pattern.compile("(\\d+)(?: to (\\d+))?(?=[, ])").matcher(row.contains("promises") ? row : "");
        while (told.find()) {
            int last = Integer.parseInt(told.group(told.group(2) == null ? 1 : 2));
            for (int p = Integer.parseInt(told.group(1)); p <= last; p++) {
                yes("promise " + p + " is one", p >= 1 && p <= PROMISES);
                all.add(p);
            }
        }
        return all;
    }

    // ---- the way to run the tests

    private static void wayToRun(String readme) throws IOException {
        yes("README.md says to run .ci/run", readme.contains("## Tests\n\n    .ci/run\n"));
        yes(".ci/run can be run", Files.isExecutable(RUN));
        String script = Files.readString(RUN);
        for (String place : List.of("src/main/java/DoorCalls.java", "../shared/tests", "src/test/java/*Test.java")) {
            yes("README.md names " + place, readme.contains("`" + place + "`"));
            yes(".ci/run goes to " + place, script.contains(place));
        }
    }
}
