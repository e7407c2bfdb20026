import java.io.IOException;
import java.lang.reflect.Field;
import java.lang.reflect.Modifier;
import java.net.URL;
import java.net.URLClassLoader;
import java.nio.file.Files;
import java.nio.file.Path;
import java.util.ArrayList;
import java.util.Comparator;
import java.util.List;
import java.util.TreeSet;
import java.util.regex.Matcher;
import java.util.regex.Pattern;
import java.util.stream.Stream;
import javax.tools.ToolProvider;

/** Holds README.md against the class and the project: its examples, the calls that it names, its commands and files. */
public final class ReadmeTest {
    private static final Check CHECK = new Check("ReadmeTest");
    private static final Path PROGRAM = Path.of("src/main/java/MeetingServer.java");
    private static final Path TESTS = Path.of("src/test/java");
    private static final Pattern METHOD = Pattern.compile("^    public \\w+ (\\w+)\\(([^)]*)\\).*\\{$");
    /** Under this name the commands of README.md compile and run a program of their reader. */
    private static final String READER = "YourProgram";

    private ReadmeTest() {
    }

    public static void main(String[] args) throws IOException, InterruptedException, ReflectiveOperationException {
        Readme readme = new Readme();
        Path place = Files.createTempDirectory("readme");
        try {
            runExamples(readme, place);
            runCommands(readme, place);
        } finally {
            remove(place);
        }
        nameCalls(readme);
        nameFiles(readme);
        CHECK.end();
    }

    // ---- the examples

    private static void runExamples(Readme readme, Path place) throws IOException, ReflectiveOperationException {
        CHECK.due("there are examples", readme.examples.isEmpty(), false);
        Path source = place.resolve(ReadmeProgram.NAME + ".java");
        Files.writeString(source, ReadmeProgram.of(readme.examples, constants()));
        int failed = ToolProvider.getSystemJavaCompiler().run(null, null, null, "-classpath",
                System.getProperty("java.class.path"), "-d", place.toString(), source.toString());
        CHECK.due("the examples compile, errors", failed, 0);
        if (failed == 0) {
            compare(place, toldIn(readme));
        }
    }

    /** How many lines tell an answer. */
    private static int toldIn(Readme readme) {
        return (int) readme.examples.stream().flatMap(List::stream).filter(line -> line.contains("; ")
                && line.contains("// ")).count();
    }

    private static void compare(Path place, int told) throws IOException, ReflectiveOperationException {
        List<Object[]> rows = new ArrayList<>();
        try (URLClassLoader loader = new URLClassLoader(new URL[] {place.toUri().toURL()})) {
            loader.loadClass(ReadmeProgram.NAME).getMethod("run", List.class).invoke(null, rows);
        }
        for (Object[] row : rows) {
            CHECK.due("'" + row[0] + "'", row[1], row[2]);
        }
        CHECK.due("lines that were compared", rows.size(), told);
    }

    private static List<String> constants() {
        return Stream.of(MeetingServer.class.getDeclaredFields())
                .filter(field -> Modifier.isPublic(field.getModifiers())).map(Field::getName).toList();
    }

    // ---- the commands

    /** Each command but the one that runs this test, too, is run at a place that holds the sources and a reader's program. */
    private static void runCommands(Readme readme, Path place) throws IOException, InterruptedException {
        copy(PROGRAM, place);
        try (Stream<Path> tests = Files.list(TESTS)) {
            for (Path test : tests.toList()) {
                copy(test, place);
            }
        }
        Files.writeString(place.resolve(READER + ".java"), "public class " + READER
                + " {\npublic static void main(String[] args) {\n" + String.join("\n", readme.examples.get(0)) + "\n}\n}\n");
        CHECK.due("tests are run by .ci/run", readme.commands.contains(".ci/run"), true);
        for (String command : readme.commands) {
            if (!command.equals(".ci/run")) {
                CHECK.due("exit code of " + command, exitCode(command, place), 0);
            }
        }
    }

    private static void copy(Path file, Path place) throws IOException {
        Path copied = place.resolve(file);
        Files.createDirectories(copied.getParent());
        Files.copy(file, copied);
    }

    private static int exitCode(String command, Path place) throws IOException, InterruptedException {
        return new ProcessBuilder("sh", "-c", command).directory(place.toFile())
                .redirectOutput(ProcessBuilder.Redirect.DISCARD).redirectError(ProcessBuilder.Redirect.INHERIT)
                .start().waitFor();
    }

    private static void remove(Path place) throws IOException {
        try (Stream<Path> all = Files.walk(place)) {
            for (Path path : all.sorted(Comparator.reverseOrder()).toList()) {
                Files.delete(path);
            }
        }
    }

    // ---- the names

    /** The tables have each call of the class, with its arguments, in its order. */
    private static void nameCalls(Readme readme) throws IOException {
        List<String> calls = new ArrayList<>();
        for (String line : Files.readAllLines(PROGRAM)) {
            Matcher method = METHOD.matcher(line);
            if (method.matches()) {
                calls.add(method.group(1) + "(" + method.group(2).replaceAll("\\w+ (\\w+)", "$1") + ")");
            }
        }
        CHECK.due("calls in the tables", String.join("\n", readme.calls), String.join("\n", calls));
        for (String constant : constants()) {
            boolean isNamed = readme.quoted.contains(constant)
                    || readme.examples.stream().flatMap(List::stream).anyMatch(line -> line.contains(constant));
            CHECK.due("the constant " + constant + " is named", isNamed, true);
        }
    }

    /** Each file that is named is there, and each test that is there is named. */
    private static void nameFiles(Readme readme) throws IOException {
        for (String quoted : readme.quoted) {
            if (quoted.matches("[./\\w]+/\\w[./\\w]*")) {
                CHECK.due("the file " + quoted + " is there", Files.exists(Path.of(quoted)), true);
            }
        }
        TreeSet<String> named = new TreeSet<>(readme.quoted);
        named.removeIf(word -> !word.matches("\\w+Test|EdgesOf\\w+"));
        TreeSet<String> there = new TreeSet<>();
        try (Stream<Path> tests = Files.list(TESTS)) {
            tests.map(test -> test.getFileName().toString().replace(".java", ""))
                    .filter(name -> name.matches("\\w+Test|EdgesOf\\w+")).forEach(there::add);
        }
        CHECK.due("tests that are named", named, there);
    }
}
