/** The sentences of the promises 26 to 32: meetings as a person has them. */
final class EdgesOfHeld {
    private static final int NONE = MeetingServer.NONE;
    private static final int NEEDED = MeetingServer.NEEDED;
    private static final int ACCEPTED = MeetingServer.ACCEPTED;
    private static final int TENTATIVE = MeetingServer.TENTATIVE;
    private static final int DECLINED = MeetingServer.DECLINED;
    private static final int DELEGATED = MeetingServer.DELEGATED;

    private final Edges edges;

    EdgesOfHeld(Edges edges) {
        this.edges = edges;
    }

    void run() {
        nowAndCopies();
        meetings();
        isThere();
        sequence();
        dates();
        dateAt();
        begin();
        ownAnswer();
    }

    private void nowAndCopies() {
        edges.of("Exceptions", "---- meetings, as a person has them: the organiser the version of now, others their"
                + " copies.");
        MeetingServer server = Scenes.wide();
        server.move(0, 3, 90);
        server.drop(0, 59);
        server.send(0);
        server.deliver(9);
        edges.due("the organiser", server.sequence(2, 0) + " " + Look.dates(server, 2, 0), "8 0 3");
        edges.due("one who has got it", server.sequence(1, 0) + " " + Look.dates(server, 1, 0), "8 0 3");
        edges.due("one who has not", server.sequence(0, 0) + " " + Look.dates(server, 0, 0), "6 0 3 59");
        edges.due("begin by the copy", server.begin(0, 0, 3) * 1000 + server.begin(1, 0, 3), 82 * 1000 + 90);
    }

    private void meetings() {
        edges.of(26, "Returns how many meetings there are.");
        edges.due("none", new MeetingServer().meetings(), 0);
        edges.due("one", Scenes.several(1).meetings(), 1);
        edges.due("eight", Scenes.eight().meetings(), 8);
        MeetingServer cancelled = Scenes.several(1);
        cancelled.cancel(0);
        edges.due("a cancelled one", cancelled.meetings(), 1);
    }

    private void isThere() {
        edges.of(27, "of the organiser, whether it is not cancelled; of others, whether a copy is there");
        MeetingServer server = Scenes.wide();
        edges.due("the organiser", server.isThere(2, 0), true);
        edges.due("a copy", server.isThere(4, 7), true);
        edges.due("no copy", server.isThere(4, 1), false);
        MeetingServer cancelled = Scenes.wideCancelledCopy();
        edges.due("the organiser, cancelled", cancelled.isThere(2, 0), false);
        edges.of(27, "Returns whether it is there.");
        edges.due("a cancelled copy", cancelled.isThere(1, 0), false);
        edges.due("a copy of one that is cancelled", cancelled.isThere(0, 0), true);
        edges.due("left out", Scenes.wideLeftOut().isThere(1, 0), false);
    }

    private void sequence() {
        edges.of(28, "Returns the sequence that a person has of a meeting.");
        MeetingServer server = Scenes.wide();
        edges.due("the organiser, at first", server.sequence(2, 1), 0);
        edges.due("the organiser", server.sequence(2, 0), 6);
        edges.due("a copy", server.sequence(1, 0), 6);
        edges.of(28, "Returns the sequence, also of one that is gone; NONE if the person has no copy.");
        edges.due("no copy", server.sequence(1, 1), NONE);
        edges.due("sent, but not come", Scenes.sent().sequence(1, 0), NONE);
        MeetingServer cancelled = Scenes.wideCancelledCopy();
        edges.due("cancelled, of the organiser", cancelled.sequence(2, 0), 7);
        edges.due("a cancelled copy", cancelled.sequence(1, 0), 7);
        edges.due("a copy of one that is cancelled", cancelled.sequence(0, 0), 6);
        edges.due("left out", Scenes.wideLeftOut().sequence(1, 0), 7);
    }

    private void dates() {
        edges.of(29, "Returns how many dates a meeting has, as a person has it.");
        MeetingServer changed = Scenes.wideChanged();
        changed.drop(0, 59);
        edges.due("the organiser", changed.dates(2, 0), 2);
        edges.due("a copy", changed.dates(1, 0), 3);
        edges.of(29, "Returns how many; 0 if it is not there.");
        edges.due("no copy", changed.dates(1, 1), 0);
        MeetingServer cancelled = Scenes.wideCancelledCopy();
        edges.due("cancelled, of the organiser", cancelled.dates(2, 0), 0);
        edges.due("a cancelled copy", cancelled.dates(1, 0), 0);
        edges.due("a copy of one that is cancelled", cancelled.dates(0, 0), 3);
        edges.due("left out", Scenes.wideLeftOut().dates(1, 0), 0);
        edges.due("no date", withoutDate().dates(2, 0), 0);
        edges.due("the most", withAllDays().dates(1, 0), 60);
    }

    private static MeetingServer withoutDate() {
        MeetingServer server = Scenes.several(1);
        server.drop(0, 3);
        return server;
    }

    /** A meeting of person 2 on all days, and a copy of it at person 1. */
    private static MeetingServer withAllDays() {
        MeetingServer server = Scenes.several(1);
        for (int day = 0; day < 60; day++) {
            if (day != 3) {
                server.add(0, day);
            }
        }
        server.invite(0, 1, true);
        server.send(0);
        server.deliver(0);
        return server;
    }

    private void dateAt() {
        edges.of(30, "Returns a date of a meeting, as a person has it.");
        MeetingServer changed = Scenes.wideChanged();
        edges.due("the organiser", Look.dates(changed, 2, 0), "0 20 59");
        edges.due("a copy", Look.dates(changed, 1, 0), "0 3 59");
        edges.of(30, "Returns its day.");
        MeetingServer all = withAllDays();
        for (int place = 0; place < 60; place++) {
            edges.due("place " + place, all.dateAt(1, 0, place), place);
        }
        edges.due("place 60 of 60", Check.thrownBy(() -> all.dateAt(1, 0, 60)), "IndexOutOfBoundsException");
        edges.noPlace("place 0 of none", EdgesOfHeld::withoutDate, x -> x.dateAt(2, 0, 0));
        edges.of(30, "`place`: 0 for the lowest day");
        MeetingServer moved = Scenes.wide();
        moved.move(0, 0, 1439);
        moved.move(0, 59, 0);
        edges.due("not by the hours to which they are moved", Look.dates(moved, 2, 0), "0 3 59");
    }

    private void begin() {
        edges.of(31, "Returns when the meeting of a date begins, as a person has it.");
        MeetingServer server = Scenes.wide();
        edges.due("the first day", server.begin(1, 0, 0), 10);
        edges.due("the last day", server.begin(1, 0, 59), 59 * 24 + 10);
        server.move(0, 59, 5);
        edges.due("moved", server.begin(2, 0, 59), 5);
        edges.due("not in the copy", server.begin(1, 0, 59), 59 * 24 + 10);
        edges.of(31, "Returns the common hour.");
        server.setOffset(0, 12);
        edges.due("below 0", server.begin(1, 0, 0), -2);
        server.setSummer(0, 0, 60);
        edges.due("and in summer", server.begin(1, 0, 0), -3);
        server.setOffset(0, -12);
        edges.due("behind the day 59", server.begin(1, 0, 59), 59 * 24 + 21);
    }

    private void ownAnswer() {
        edges.of(32, "Returns a person's answer for a date, as this person knows it.");
        MeetingServer server = Scenes.wide();
        server.answer(1, 0, 0, DECLINED);
        edges.due("not delivered", server.ownAnswer(1, 0, 0), DECLINED);
        edges.due("of another date", server.ownAnswer(1, 0, 59), NEEDED);
        edges.due("of another person", server.ownAnswer(3, 0, 0), NEEDED);
        edges.due("of another meeting", server.ownAnswer(1, 7, 0), NEEDED);
        server.move(0, 0, 20);
        edges.due("by the own copy", server.ownAnswer(1, 0, 0), DECLINED);
        server.send(0);
        server.deliver(10);
        edges.due("below the stand in the new copy", server.ownAnswer(1, 0, 0), NEEDED);
        edges.of(32, "Returns NEEDED to DELEGATED; of the organiser ACCEPTED.");
        edges.due("NEEDED", server.ownAnswer(4, 0, 0), NEEDED);
        for (int answer = ACCEPTED; answer <= DECLINED; answer++) {
            server.answer(1, 0, NONE, answer);
            edges.due("answer " + answer, server.ownAnswer(1, 0, 59), answer);
        }
        server.delegate(1, 0, 3);
        edges.due("DELEGATED", server.ownAnswer(1, 0, 59), DELEGATED);
        edges.due("of the organiser", server.ownAnswer(2, 0, 59), ACCEPTED);
        edges.due("of the organiser of one that nobody else has", server.ownAnswer(2, 1, 3), ACCEPTED);
        edges.of("Exceptions", "`NEEDED = 0, ACCEPTED = 1, TENTATIVE = 2, DECLINED = 3, DELEGATED = 4`: Answers.");
        edges.due("the numbers", "" + NEEDED + ACCEPTED + TENTATIVE + DECLINED + DELEGATED, "01234");
        edges.of("Exceptions", "The constants: `NONE = -1`: There is none; as a day of an answer: all dates.");
        edges.due("the number", NONE, -1);
    }
}
