import java.io.IOException;

/**
 * For each sentence of the document that names a case at a boundary, tests that bear the sentence itself as their
 * name; and each row of a promise and each sentence of the terms must have one.
 */
public final class EdgesTest {
    private EdgesTest() {
    }

    public static void main(String[] args) throws IOException {
        Edges edges = new Edges();
        new EdgesOfCalls(edges).run();
        new EdgesOfZones(edges).run();
        new EdgesOfVersions(edges).run();
        new EdgesOfMessages(edges).run();
        new EdgesOfHeld(edges).run();
        new EdgesOfAnswers(edges).run();
        new EdgesOfBusyTimes(edges).run();
        new EdgesOfMarks(edges).run();
        new EdgesOfExceptions(edges).run();
        edges.end();
    }
}
