import java.io.IOException;
import java.nio.file.Files;
import java.nio.file.Path;
import java.util.ArrayList;
import java.util.LinkedHashMap;
import java.util.List;
import java.util.Map;
import java.util.Set;

/** The sentences and rows of the document by their sections, and which of them were quoted. */
final class Document {
    private static final Path FILE = Path.of("../shared/DOC.md");
    /** Sections without a sentence to be tested: the title, the code of the face, which LanguageTest holds, and what is free. */
    private static final Set<String> LEFT_OUT = Set.of("MeetingServer", "The public face", "Not promised");
    /** Sentences that tell what the whole is about, and titles of groups of calls. */
    private static final List<String> WITHOUT_A_CASE = List.of("A server of meetings: zones whose clocks change",
            "---- what others do.", "---- messages.", "---- busy times.", "---- marks.");
    /** A chapter of the terms whose title bears no sign of one. */
    private static final String BARE_TITLE = "Meetings, versions";

    /** The rows not quoted yet. */
    private final Map<String, List<String>> open = new LinkedHashMap<>();
    private final Map<String, List<String>> rows = new LinkedHashMap<>();

    Document() throws IOException {
        String section = "";
        for (String line : Files.readAllLines(FILE)) {
            if (line.startsWith("#") || line.equals(BARE_TITLE)) {
                section = titleOf(line);
            } else if (!line.isBlank() && !LEFT_OUT.contains(section)) {
                addRows(section, line);
            }
        }
        rows.forEach((title, all) -> open.put(title, new ArrayList<>(all.stream()
                .filter(row -> WITHOUT_A_CASE.stream().noneMatch(row::contains)).toList())));
    }

    /** Of a promise its number alone: 'Promise 6'. */
    private static String titleOf(String line) {
        String title = line.replaceFirst("^#+ ", "");
        return title.startsWith("Promise ") ? title.substring(0, title.indexOf(':')) : title;
    }

    /** A line of a promise is a row; a line of the terms is taken apart into its sentences. */
    private void addRows(String section, String line) {
        List<String> all = rows.computeIfAbsent(section, any -> new ArrayList<>());
        if (section.startsWith("Promise ")) {
            all.add(line);
        } else {
            all.addAll(List.of(line.split("(?<=\\.) (?=[A-Z])")));
        }
    }

    boolean has(String section, String quoted) {
        return rows.getOrDefault(section, List.of()).stream().anyMatch(row -> row.contains(quoted));
    }

    void quote(String section, String quoted) {
        open.getOrDefault(section, new ArrayList<>()).removeIf(row -> row.contains(quoted));
    }

    /** The rows that no test has quoted. */
    List<String> notQuoted() {
        List<String> all = new ArrayList<>();
        open.forEach((section, left) -> left.forEach(row -> all.add(section + ": " + row)));
        return all;
    }
}
