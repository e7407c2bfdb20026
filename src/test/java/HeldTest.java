/** Promises 26 to 32. */
public final class HeldTest {
    private static final Check CHECK = new Check("HeldTest");
    private static final int NONE = MeetingServer.NONE;
    private static final int NEEDED = MeetingServer.NEEDED;
    private static final int ACCEPTED = MeetingServer.ACCEPTED;
    private static final int TENTATIVE = MeetingServer.TENTATIVE;
    private static final int DECLINED = MeetingServer.DECLINED;

    private HeldTest() {
    }

    public static void main(String[] args) {
        meetings();
        isThere();
        sequence();
        dates();
        dateAt();
        begin();
        versionsDoNotChange();
        ownAnswer();
        ownAnswerBySequenceAndStand();
        refuse();
        CHECK.end();
    }

    /** held(), and person 1 is left out, by message 2, which has come; person 2 has not heard of it. */
    private static MeetingServer leftOut() {
        MeetingServer server = Scenes.held();
        server.invite(0, 1, false);
        server.send(0);
        server.deliver(2);
        return server;
    }

    // ---- 26

    private static void meetings() {
        MeetingServer server = Scenes.made();
        CHECK.due("26: one", server.meetings(), 1);
        server.make(1, 0, 0, 0, 1);
        CHECK.due("26: two", server.meetings(), 2);
        server.cancel(0);
        CHECK.due("26: cancelled ones, too", server.meetings(), 2);
        CHECK.due("26: eight", Scenes.full().meetings(), 8);
    }

    // ---- 27

    private static void isThere() {
        MeetingServer server = Scenes.sent();
        CHECK.due("27: organiser", server.isThere(0, 0), true);
        CHECK.due("27: no copy", server.isThere(1, 0), false);
        server.deliver(0);
        CHECK.due("27: copy", server.isThere(1, 0), true);
        CHECK.due("27: another person", server.isThere(2, 0), false);
        server.cancel(0);
        CHECK.due("27: organiser, cancelled", server.isThere(0, 0), false);
        CHECK.due("27: copy of one cancelled since", server.isThere(1, 0), true);
        server.send(0);
        server.deliver(2);
        CHECK.due("27: cancelled copy", server.isThere(1, 0), false);
        MeetingServer left = leftOut();
        CHECK.due("27: left out in the copy", left.isThere(1, 0), false);
        CHECK.due("27: another one left out", left.isThere(2, 0), true);
        left.deliver(3);
        CHECK.due("27: another one left out in the copy", left.isThere(2, 0), true);
        left.invite(0, 1, true);
        left.send(0);
        left.deliver(4);
        CHECK.due("27: invited again", left.isThere(1, 0), true);
    }

    // ---- 28

    private static void sequence() {
        MeetingServer server = Scenes.sent();
        CHECK.due("28: organiser", server.sequence(0, 0), 2);
        CHECK.due("28: no copy", server.sequence(1, 0), NONE);
        server.deliver(0);
        CHECK.due("28: copy", server.sequence(1, 0), 2);
        server.cancel(0);
        CHECK.due("28: organiser, cancelled", server.sequence(0, 0), 3);
        CHECK.due("28: the copy stays", server.sequence(1, 0), 2);
        server.send(0);
        server.deliver(2);
        CHECK.due("28: a copy that is gone", server.sequence(1, 0), 3);
        CHECK.due("28: left out", leftOut().sequence(1, 0), 3);
        CHECK.due("28: never asked", server.sequence(4, 0), NONE);
    }

    // ---- 29

    private static void dates() {
        MeetingServer server = Scenes.repeatedHeld();
        server.drop(0, 4);
        CHECK.due("29: organiser", server.dates(0, 0), 4);
        CHECK.due("29: copy", server.dates(1, 0), 5);
        CHECK.due("29: no copy", server.dates(2, 0), 0);
        server.cancel(0);
        CHECK.due("29: organiser, cancelled", server.dates(0, 0), 0);
        CHECK.due("29: left out", leftOut().dates(1, 0), 0);
        MeetingServer many = Scenes.repeated();
        for (int day = 0; day < 60; day++) {
            if (day > 10 || day % 2 == 1 || day == 0) {
                many.add(0, day);
            }
        }
        CHECK.due("29: all days", many.dates(0, 0), 60);
        CHECK.due("30: the last of all days", many.dateAt(0, 0, 59), 59);
    }

    // ---- 30

    private static void dateAt() {
        MeetingServer server = Scenes.repeatedHeld();
        server.add(0, 1);
        server.move(0, 2, 1000);
        CHECK.due("30: organiser", Look.dates(server, 0, 0), "1 2 4 6 8 10");
        CHECK.due("30: copy", Look.dates(server, 1, 0), "2 4 6 8 10");
        CHECK.due("30: lowest", server.dateAt(0, 0, 0), 1);
        CHECK.due("30: its own day, not that to which it was moved", server.dateAt(0, 0, 1), 2);
        CHECK.due("30: highest", server.dateAt(1, 0, 4), 10);
    }

    // ---- 31

    private static void begin() {
        MeetingServer server = Scenes.repeatedHeld();
        server.move(0, 4, 300);
        CHECK.due("31: organiser", server.begin(0, 0, 4), 300);
        CHECK.due("31: copy", server.begin(1, 0, 4), 4 * 24 + 9);
        MeetingServer summer = new MeetingServer();
        summer.setOffset(1, 1);
        summer.setSummer(1, 10, 12);
        summer.make(0, 1, 9, 2, 1);
        summer.repeat(0, 1, 127, 5);
        CHECK.due("31: ahead of summer", summer.begin(0, 0, 9), 9 * 24 + 1);
        CHECK.due("31: an hour that does not come", summer.begin(0, 0, 10), 10 * 24 + 1);
        CHECK.due("31: in summer", summer.begin(0, 0, 11), 11 * 24);
        CHECK.due("31: the earlier of two", summer.begin(0, 0, 12), 12 * 24);
        CHECK.due("31: behind summer", summer.begin(0, 0, 13), 13 * 24 + 1);
        summer.move(0, 9, 11 * 24 + 5);
        CHECK.due("31: moved into summer", summer.begin(0, 0, 9), 11 * 24 + 3);
    }

    /** What is sent holds as it was, whatever is changed then. */
    private static void versionsDoNotChange() {
        MeetingServer server = Scenes.repeated();
        server.move(0, 6, 500);
        server.add(0, 5);
        server.drop(0, 8);
        server.invite(0, 1, true);
        server.send(0);
        server.drop(0, 5);
        server.drop(0, 6);
        server.add(0, 8);
        server.move(0, 10, 700);
        server.repeat(0, 1, 127, 1);
        server.time(0, 30, 1, 5);
        server.invite(0, 1, false);
        server.cancel(0);
        server.deliver(0);
        CHECK.due("30: dates of then", Look.dates(server, 1, 0), "2 4 5 6 10");
        CHECK.due("31: moved as then", server.begin(1, 0, 6), 500);
        CHECK.due("31: not moved then", server.begin(1, 0, 10), 249);
        CHECK.due("39: length of then", server.rank(1, 58), MeetingServer.FREE);
        server.answer(1, 0, NONE, ACCEPTED);
        CHECK.due("32: stand of then", server.ownAnswer(1, 0, 10), ACCEPTED);
        CHECK.due("39: and hour of then", server.rank(1, 57), MeetingServer.BUSY);
        CHECK.due("39: behind it", server.rank(1, 58), MeetingServer.FREE);
    }

    // ---- 32

    private static void ownAnswer() {
        MeetingServer server = Scenes.repeatedHeld();
        CHECK.due("32: the organiser", server.ownAnswer(0, 0, 4), ACCEPTED);
        CHECK.due("32: needed", server.ownAnswer(1, 0, 4), NEEDED);
        server.answer(1, 0, 4, DECLINED);
        CHECK.due("32: for this date", server.ownAnswer(1, 0, 4), DECLINED);
        CHECK.due("32: for another one", server.ownAnswer(1, 0, 6), NEEDED);
        server.answer(1, 0, NONE, TENTATIVE);
        CHECK.due("32: the greater stamp", server.ownAnswer(1, 0, 4), TENTATIVE);
        server.answer(1, 0, 4, ACCEPTED);
        CHECK.due("32: the greater stamp of the date", server.ownAnswer(1, 0, 4), ACCEPTED);
        CHECK.due("32: all else", server.ownAnswer(1, 0, 6), TENTATIVE);
        server.delegate(1, 0, 2);
        CHECK.due("32: delegated", server.ownAnswer(1, 0, 4), MeetingServer.DELEGATED);
        server.make(3, 0, 4, 9, 1);
        server.invite(1, 1, true);
        server.send(1);
        server.deliver(server.messages() - 1);
        CHECK.due("32: of another meeting", server.ownAnswer(1, 1, 4), NEEDED);
        server.deliver(5);
        CHECK.due("32: of another person", server.ownAnswer(2, 0, 4), NEEDED);
    }

    private static void ownAnswerBySequenceAndStand() {
        MeetingServer server = Scenes.repeatedHeld();
        server.answer(1, 0, 4, DECLINED);
        server.answer(1, 0, NONE, ACCEPTED);
        server.move(0, 4, 101);
        CHECK.due("32: by the own copy", server.ownAnswer(1, 0, 4), ACCEPTED);
        server.send(0);
        server.deliver(3);
        CHECK.due("32: below the stand", server.ownAnswer(1, 0, 4), NEEDED);
        CHECK.due("32: another day", server.ownAnswer(1, 0, 6), ACCEPTED);
        server.answer(1, 0, 4, TENTATIVE);
        CHECK.due("32: with the sequence of the stand", server.ownAnswer(1, 0, 4), TENTATIVE);
        server.time(0, 2, 9, 1);
        server.send(0);
        server.deliver(5);
        CHECK.due("32: the stand of all", server.ownAnswer(1, 0, 4) + server.ownAnswer(1, 0, 6), 2 * NEEDED);
        server.answer(1, 0, 6, DECLINED);
        server.invite(0, 3, true);
        server.send(0);
        server.deliver(7);
        CHECK.due("32: answered ahead of a change that moves nothing", server.ownAnswer(1, 0, 6), DECLINED);
        MeetingServer first = Scenes.held();
        first.answer(1, 0, NONE, ACCEPTED);
        CHECK.due("32: of the first stand", first.ownAnswer(1, 0, 3), ACCEPTED);
    }

    // ---- wrong inputs

    private static void refuse() {
        CHECK.noPlace("27: person -1", Scenes::held, x -> x.isThere(-1, 0));
        CHECK.noPlace("27: person 5", Scenes::held, x -> x.isThere(5, 0));
        CHECK.noPlace("27: meeting -1", Scenes::held, x -> x.isThere(1, -1));
        CHECK.noPlace("27: meeting 1", Scenes::held, x -> x.isThere(1, 1));
        CHECK.noPlace("27: meeting 8", Scenes::full, x -> x.isThere(1, 8));
        CHECK.noPlace("28: person -1", Scenes::held, x -> x.sequence(-1, 0));
        CHECK.noPlace("28: person 5", Scenes::held, x -> x.sequence(5, 0));
        CHECK.noPlace("28: meeting -1", Scenes::held, x -> x.sequence(1, -1));
        CHECK.noPlace("28: meeting 1", Scenes::held, x -> x.sequence(1, 1));
        CHECK.noPlace("29: person -1", Scenes::held, x -> x.dates(-1, 0));
        CHECK.noPlace("29: person 5", Scenes::held, x -> x.dates(5, 0));
        CHECK.noPlace("29: meeting -1", Scenes::held, x -> x.dates(1, -1));
        CHECK.noPlace("29: meeting 1", Scenes::held, x -> x.dates(1, 1));
        CHECK.noPlace("30: person -1", Scenes::held, x -> x.dateAt(-1, 0, 0));
        CHECK.noPlace("30: person 5", Scenes::held, x -> x.dateAt(5, 0, 0));
        CHECK.noPlace("30: meeting -1", Scenes::held, x -> x.dateAt(1, -1, 0));
        CHECK.noPlace("30: meeting 1", Scenes::held, x -> x.dateAt(1, 1, 0));
        CHECK.noPlace("30: place -1", Scenes::held, x -> x.dateAt(1, 0, -1));
        CHECK.noPlace("30: place 1", Scenes::held, x -> x.dateAt(1, 0, 1));
        CHECK.noPlace("30: no copy", Scenes::sent, x -> x.dateAt(1, 0, 0));
        CHECK.noPlace("30: cancelled", Scenes::cancelled, x -> x.dateAt(0, 0, 0));
        CHECK.noPlace("30: left out", HeldTest::leftOut, x -> x.dateAt(1, 0, 0));
        CHECK.noPlace("31: person -1", Scenes::held, x -> x.begin(-1, 0, 3));
        CHECK.noPlace("31: person 5, ahead of the day", Scenes::held, x -> x.begin(5, 0, 60));
        CHECK.noPlace("31: meeting -1", Scenes::held, x -> x.begin(1, -1, 3));
        CHECK.noPlace("31: meeting 1, ahead of the day", Scenes::held, x -> x.begin(1, 1, -1));
        CHECK.badArgument("31: day -1", Scenes::held, x -> x.begin(1, 0, -1));
        CHECK.badArgument("31: day 60, ahead of no copy", Scenes::sent, x -> x.begin(1, 0, 60));
        CHECK.badState("31: no date", Scenes::held, x -> x.begin(1, 0, 4));
        CHECK.badState("31: no copy", Scenes::sent, x -> x.begin(1, 0, 3));
        CHECK.badState("31: cancelled", Scenes::cancelled, x -> x.begin(0, 0, 3));
        CHECK.badState("31: left out", HeldTest::leftOut, x -> x.begin(1, 0, 3));
        CHECK.noPlace("32: person -1", Scenes::held, x -> x.ownAnswer(-1, 0, 3));
        CHECK.noPlace("32: person 5, ahead of the day", Scenes::held, x -> x.ownAnswer(5, 0, 60));
        CHECK.noPlace("32: meeting -1", Scenes::held, x -> x.ownAnswer(1, -1, 3));
        CHECK.noPlace("32: meeting 1, ahead of the day", Scenes::held, x -> x.ownAnswer(1, 1, -1));
        CHECK.badArgument("32: day -1", Scenes::held, x -> x.ownAnswer(1, 0, -1));
        CHECK.badArgument("32: day 60, ahead of no copy", Scenes::sent, x -> x.ownAnswer(1, 0, 60));
        CHECK.badState("32: no date", Scenes::held, x -> x.ownAnswer(1, 0, 4));
        CHECK.badState("32: no date of the organiser", Scenes::held, x -> x.ownAnswer(0, 0, 4));
        CHECK.badState("32: no copy", Scenes::sent, x -> x.ownAnswer(1, 0, 3));
        CHECK.badState("32: cancelled", Scenes::cancelled, x -> x.ownAnswer(0, 0, 3));
        CHECK.badState("32: left out", HeldTest::leftOut, x -> x.ownAnswer(1, 0, 3));
    }
}
