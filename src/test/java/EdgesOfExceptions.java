/** The sentences of 'Exceptions', and the one about the number of calls. */
final class EdgesOfExceptions {
    private static final String CHAPTER = "Exceptions";

    private final Edges edges;

    EdgesOfExceptions(Edges edges) {
        this.edges = edges;
    }

    void run() {
        placesThatAreNotThere();
        argumentsOutOfRange();
        states();
        refusedCallsChangeNothing();
        manyCalls();
    }

    private void placesThatAreNotThere() {
        edges.of(CHAPTER, "IndexOutOfBoundsException: there is no such person, zone, meeting, message or place.");
        edges.noPlace("person 5", Scenes::wide, x -> x.mark(5));
        edges.noPlace("zone 3", Scenes::wide, x -> x.local(3, 0));
        edges.noPlace("meeting 8", Scenes::wide, x -> x.agrees(8));
        edges.noPlace("message 8", Scenes::wide, x -> x.kindOf(8));
        edges.noPlace("place 3", Scenes::wide, x -> x.dateAt(2, 0, 3));
    }

    private void argumentsOutOfRange() {
        edges.of(CHAPTER, "IllegalArgumentException: another argument is out of its range; days are 0 to 59, hours of the"
                + " day 0 to 23.");
        edges.badArgument("day -1", Scenes::wide, x -> x.begin(2, 0, -1));
        edges.badArgument("day 60", Scenes::wide, x -> x.begin(2, 0, 60));
        edges.badArgument("hour -1", Scenes::wide, x -> x.time(0, 0, -1, 1));
        edges.badArgument("hour 24", Scenes::wide, x -> x.time(0, 0, 24, 1));
        edges.due("day 0", Scenes.wide().begin(2, 0, 0), 10);
        edges.due("day 59", Scenes.wide().begin(2, 0, 59), 59 * 24 + 10);
        edges.due("hour 0", Scenes.wide().time(0, 0, 0, 1), 7);
        edges.due("hour 23", Scenes.wide().time(0, 0, 23, 1), 7);
    }

    private void states() {
        edges.of(CHAPTER, "IllegalStateException: as the method says.");
        edges.badState("a ninth meeting", Scenes::eight, x -> x.make(0, 0, 0, 0, 1));
        edges.badState("no date", Scenes::wide, x -> x.drop(0, 4));
        edges.badState("below the floor", Scenes::forgetful, x -> x.changes(2, 8));
    }

    private void refusedCallsChangeNothing() {
        edges.of(CHAPTER, "a call that throws changes nothing");
        edges.badState("a send without room for the last one", () -> Scenes.wideWithMessages(147), x -> x.send(0));
        edges.badState("a delegation without room for its request", () -> Scenes.wideWithMessages(149),
                x -> x.delegate(3, 0, 1));
        edges.badArgument("a summer with a bad last day", Scenes::clocks, x -> x.setSummer(0, 5, 61));
        edges.badArgument("a time with a bad length", Scenes::wide, x -> x.time(0, 5, 5, 24));
        MeetingServer server = Scenes.wide();
        int thrown = 0;
        for (int call = 0; call < 400; call++) {
            thrown += Check.thrownBy(() -> server.move(0, 4, 90)).equals("IllegalStateException") ? 1 : 0;
        }
        edges.due("each time", thrown, 400);
        edges.due("no version by any", server.move(0, 3, 90), 7);
    }

    private void manyCalls() {
        edges.of("What it is", "An object is used for at most 512 calls after it has been made");
        MeetingServer changed = Scenes.several(1);
        for (int call = 2; call < 512; call++) {
            changed.move(0, 3, call);
        }
        edges.due("the last of as many changes", changed.move(0, 3, 90), 511);
        MeetingServer asked = Scenes.several(1);
        for (int call = 2; call < 512; call++) {
            asked.firstFree(31, -48, 48);
        }
        edges.due("the last of as many questions", asked.firstFree(4, 82, 48), 84);
    }
}
