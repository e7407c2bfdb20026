import java.util.List;
import java.util.regex.Matcher;
import java.util.regex.Pattern;

/** The text of a program that runs the examples of README.md and tells what each of their lines answered. */
final class ReadmeProgram {
    static final String NAME = "ReadmeExamples";

    private static final Pattern TOLD = Pattern.compile("^(\\s*)(.*;)\\s*// (.*)$");
    private static final Pattern KEPT = Pattern.compile("^\\w+ (\\w+) = .*;$");
    private static final String HEAD = """
            import java.util.List;

            public final class %s {
                %s

                interface Call {
                    void make();
                }

                static String thrownBy(Call call) {
                    try {
                        call.make();
                        return "nothing";
                    } catch (RuntimeException thrown) {
                        return thrown.getClass().getSimpleName();
                    }
                }

                static void add(List<Object[]> rows, String line, Object got, Object want) {
                    rows.add(new Object[] {line, got, want});
                }
            """;

    private ReadmeProgram() {
    }

    /** Its method 'run' takes a list and puts a row into it for each answer: the line, what it answered, what it says. */
    static String of(List<List<String>> examples, List<String> constants) {
        StringBuilder text = new StringBuilder();
        StringBuilder named = new StringBuilder();
        for (String constant : constants) {
            named.append("static final int ").append(constant).append(" = MeetingServer.").append(constant).append("; ");
        }
        text.append(HEAD.formatted(NAME, named));
        StringBuilder run = new StringBuilder();
        for (int number = 0; number < examples.size(); number++) {
            text.append("static void example").append(number).append("(List<Object[]> rows) {\n");
            examples.get(number).forEach(line -> text.append(checked(line)).append('\n'));
            text.append("}\n");
            run.append("example").append(number).append("(rows);\n");
        }
        return text + "public static void run(List<Object[]> rows) {\n" + run + "}\n}\n";
    }

    /** A line that tells its answer, as one that adds a row; any other line as it is. */
    private static String checked(String line) {
        Matcher told = TOLD.matcher(line);
        if (!told.matches()) {
            return line;
        }
        String code = told.group(2);
        String call = code.substring(0, code.length() - 1);
        String want = told.group(3).split(": ")[0];
        String name = quoted(code + " // " + want);
        if (want.endsWith("Exception")) {
            return "add(rows, " + name + ", thrownBy(() -> " + call + "), " + quoted(want) + ");";
        }
        Matcher kept = KEPT.matcher(code);
        return kept.matches() ? code + " add(rows, " + name + ", " + kept.group(1) + ", " + want + ");"
                : "add(rows, " + name + ", " + call + ", " + want + ");";
    }

    private static String quoted(String text) {
        return "\"" + text.replace("\"", "\\\"") + "\"";
    }
}
