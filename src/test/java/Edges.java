import java.io.IOException;
import java.util.function.Consumer;
import java.util.function.Supplier;

/** Checks that name the sentence of the document that they hold; in the end each sentence must have one. */
final class Edges {
    private final Check check = new Check("EdgesTest");
    private final Document document;
    private String section = "";
    private String sentence = "";

    Edges() throws IOException {
        document = new Document();
    }

    /** What is checked from here on holds a sentence, or a part of one, of a section of the document. */
    void of(String section, String sentence) {
        this.section = section;
        this.sentence = sentence;
        check.due(section + " has '" + sentence + "'", document.has(section, sentence), true);
    }

    void of(int promise, String sentence) {
        of("Promise " + promise, sentence);
    }

    void due(String what, Object got, Object want) {
        document.quote(section, sentence);
        check.due(name(what), got, want);
    }

    /** A call on an object made anew throws this, and changes nothing. */
    void refuses(String what, Class<? extends RuntimeException> thrown, Supplier<MeetingServer> made,
            Consumer<MeetingServer> call) {
        document.quote(section, sentence);
        check.refuses(name(what), thrown, made, call);
    }

    void noPlace(String what, Supplier<MeetingServer> made, Consumer<MeetingServer> call) {
        refuses(what, IndexOutOfBoundsException.class, made, call);
    }

    void badArgument(String what, Supplier<MeetingServer> made, Consumer<MeetingServer> call) {
        refuses(what, IllegalArgumentException.class, made, call);
    }

    void badState(String what, Supplier<MeetingServer> made, Consumer<MeetingServer> call) {
        refuses(what, IllegalStateException.class, made, call);
    }

    private String name(String what) {
        return section + " '" + sentence + "': " + what;
    }

    void end() {
        for (String row : document.notQuoted()) {
            check.due("a test of '" + row + "'", "none", "one");
        }
        check.end();
    }
}
