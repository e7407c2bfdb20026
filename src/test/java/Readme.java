import java.io.IOException;
import java.nio.file.Files;
import java.nio.file.Path;
import java.util.ArrayList;
import java.util.List;
import java.util.regex.Matcher;
import java.util.regex.Pattern;

/** README.md, taken apart. */
final class Readme {
    private static final Path FILE = Path.of("README.md");
    private static final Pattern CALL = Pattern.compile("^\\| `(\\w+\\([^)]*\\))` \\|.*");
    private static final Pattern QUOTED = Pattern.compile("`([^`]+)`");

    /** The pieces of Java, in their order. */
    final List<List<String>> examples = new ArrayList<>();
    /** The rows of the tables of calls: a name and its arguments. */
    final List<String> calls = new ArrayList<>();
    /** The lines to be typed. */
    final List<String> commands = new ArrayList<>();
    /** What stands between two signs `. */
    final List<String> quoted = new ArrayList<>();

    Readme() throws IOException {
        boolean isExample = false;
        for (String line : Files.readAllLines(FILE)) {
            if (line.startsWith("```")) {
                isExample = line.equals("```java");
                if (isExample) {
                    examples.add(new ArrayList<>());
                }
            } else if (isExample) {
                examples.get(examples.size() - 1).add(line);
            } else if (line.startsWith("    ")) {
                commands.add(line.strip());
            } else {
                addText(line);
            }
        }
    }

    private void addText(String line) {
        Matcher call = CALL.matcher(line);
        if (call.matches()) {
            calls.add(call.group(1));
        }
        Matcher word = QUOTED.matcher(line);
        while (word.find()) {
            quoted.add(word.group(1));
        }
    }
}
