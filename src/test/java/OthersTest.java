/** Promises 17 to 19. */
public final class OthersTest {
    private static final Check CHECK = new Check("OthersTest");
    private static final int NONE = MeetingServer.NONE;
    private static final int NEEDED = MeetingServer.NEEDED;
    private static final int ACCEPTED = MeetingServer.ACCEPTED;
    private static final int TENTATIVE = MeetingServer.TENTATIVE;
    private static final int DECLINED = MeetingServer.DECLINED;
    private static final int DELEGATED = MeetingServer.DELEGATED;

    private OthersTest() {
    }

    public static void main(String[] args) {
        answer();
        answerOfSequenceAndStamp();
        answerRefuses();
        delegate();
        delegateRefuses();
        propose();
        proposeRefuses();
        CHECK.end();
    }

    /** held(), and person 1 is left out then, with a copy that tells it: message 2. */
    private static MeetingServer leftOut() {
        MeetingServer server = Scenes.held();
        server.invite(0, 1, false);
        server.send(0);
        server.deliver(2);
        return server;
    }

    /** held(), and person 1 has a copy that is cancelled, by message 2; the copy of person 2 is not. */
    private static MeetingServer cancelledCopy() {
        MeetingServer server = Scenes.cancelled();
        server.send(0);
        server.deliver(2);
        return server;
    }

    // ---- 17

    private static void answer() {
        MeetingServer server = Scenes.repeatedHeld();
        int mark = server.mark(1);
        CHECK.due("17: number", server.answer(1, 0, NONE, TENTATIVE), 1);
        CHECK.due("17: kind", server.kindOf(1), MeetingServer.REPLY);
        CHECK.due("17: to the organiser", server.receiver(1), 0);
        CHECK.due("17: mark", server.mark(1), mark + 1);
        CHECK.due("17: own at once", server.ownAnswer(1, 0, 6), TENTATIVE);
        CHECK.due("17: not come yet", server.answerOf(0, 1, 6), NEEDED);
        CHECK.due("17: the organiser's mark", server.mark(0), 3);
        CHECK.due("17: of a date", server.answer(1, 0, 6, DECLINED), 2);
        CHECK.due("17: own of the date", server.ownAnswer(1, 0, 6), DECLINED);
        CHECK.due("17: own of others", server.ownAnswer(1, 0, 8), TENTATIVE);
        CHECK.due("17: accepted", server.answer(1, 0, 10, ACCEPTED), 3);
        CHECK.due("17: lines", Look.lines(server, 1),
                "reply ba 0 2 tentative, reply ba 0 2 declined, reply ba 0 2 accepted");
        server.answer(1, 0, NONE, ACCEPTED);
        CHECK.due("17: one for all, made later", server.ownAnswer(1, 0, 6), ACCEPTED);
        CHECK.due("17: the 150th", Scenes.heldWithMessages(149).answer(2, 0, 3, ACCEPTED), 149);
    }

    private static void answerOfSequenceAndStamp() {
        MeetingServer server = Scenes.repeatedHeld();
        server.drop(0, 4);
        server.add(0, 5);
        CHECK.due("17: a date of the copy, no more of now", server.answer(1, 0, 4, ACCEPTED), 1);
        CHECK.due("17: not of the copy, but of now",
                Check.thrownBy(() -> server.answer(1, 0, 5, ACCEPTED)), "IllegalStateException");
        server.answer(1, 0, 6, DECLINED);
        server.send(0);
        server.deliver(3);
        CHECK.due("17: the copy of then", server.sequence(1, 0), 4);
        server.answer(1, 0, NONE, ACCEPTED);
        CHECK.due("17: the sequence of the copy", Look.lines(server, 4), "reply ba 0 4 accepted");
        server.deliver(4);
        CHECK.due("17: greater sequence, come first", server.answerOf(0, 1, 6), ACCEPTED);
        server.deliver(2);
        CHECK.due("17: lower sequence, come later", server.answerOf(0, 1, 6), ACCEPTED);
    }

    private static void answerRefuses() {
        CHECK.noPlace("17: person -1", Scenes::held, x -> x.answer(-1, 0, 3, ACCEPTED));
        CHECK.noPlace("17: person 5, ahead of the day", Scenes::held, x -> x.answer(5, 0, 60, ACCEPTED));
        CHECK.noPlace("17: meeting -1", Scenes::held, x -> x.answer(1, -1, 3, ACCEPTED));
        CHECK.noPlace("17: meeting 1, ahead of the answer", Scenes::held, x -> x.answer(1, 1, 3, NEEDED));
        CHECK.badArgument("17: day -2", Scenes::held, x -> x.answer(1, 0, -2, ACCEPTED));
        CHECK.badArgument("17: day 60", Scenes::held, x -> x.answer(1, 0, 60, ACCEPTED));
        CHECK.badArgument("17: needed", Scenes::held, x -> x.answer(1, 0, 3, NEEDED));
        CHECK.badArgument("17: delegated", Scenes::held, x -> x.answer(1, 0, NONE, DELEGATED));
        CHECK.badArgument("17: the answer ahead of no copy", Scenes::held, x -> x.answer(4, 0, NONE, DELEGATED));
        CHECK.badState("17: no copy", Scenes::sent, x -> x.answer(1, 0, NONE, ACCEPTED));
        CHECK.badState("17: the organiser", Scenes::held, x -> x.answer(0, 0, 3, ACCEPTED));
        CHECK.badState("17: left out", OthersTest::leftOut, x -> x.answer(1, 0, NONE, ACCEPTED));
        CHECK.badState("17: a cancelled copy", OthersTest::cancelledCopy, x -> x.answer(1, 0, NONE, ACCEPTED));
        CHECK.due("17: cancelled since", cancelledCopy().answer(2, 0, NONE, ACCEPTED), 4);
        CHECK.badState("17: no date", Scenes::held, x -> x.answer(1, 0, 4, ACCEPTED));
        CHECK.badState("17: 150 messages", () -> Scenes.heldWithMessages(150), x -> x.answer(1, 0, 3, ACCEPTED));
    }

    // ---- 18

    private static void delegate() {
        MeetingServer server = Scenes.held();
        server.move(0, 3, 90);
        int mark = server.mark(1);
        CHECK.due("18: number", server.delegate(1, 0, 4), 2);
        CHECK.due("18: two messages", server.messages(), 4);
        CHECK.due("18: kinds", server.kindOf(2) * 10 + server.kindOf(3),
                MeetingServer.REPLY * 10 + MeetingServer.REQUEST);
        CHECK.due("18: lines", Look.lines(server, 2), "reply ba 0 2 delegated, request be 0 2");
        CHECK.due("18: one mark", server.mark(1), mark + 1);
        CHECK.due("18: own answer", server.ownAnswer(1, 0, 3), DELEGATED);
        CHECK.due("18: no copy yet", server.sequence(4, 0), NONE);
        CHECK.due("18: it comes", server.deliver(3), true);
        CHECK.due("18: the person's copy", server.begin(4, 0, 3), 82);
        CHECK.due("18: not asked yet", server.isAsked(0, 4), false);
        server.deliver(2);
        CHECK.due("18: asked", server.isAsked(0, 4), true);
        CHECK.due("18: to one who is invited", server.delegate(1, 0, 2), 4);
        server.deliver(4);
        CHECK.due("18: the first delegate no more", server.isAsked(0, 4), false);
        CHECK.due("18: older than the stand of the day", server.answerOf(0, 1, 3), NEEDED);
        MeetingServer all = Scenes.accepted();
        all.delegate(1, 0, 3);
        all.deliver(2);
        CHECK.due("18: for each date", all.answerOf(0, 1, 2) == DELEGATED && all.answerOf(0, 1, 10) == DELEGATED, true);
        CHECK.due("18: the 149th and 150th", Scenes.heldWithMessages(148).delegate(1, 0, 4), 148);
    }

    private static void delegateRefuses() {
        CHECK.noPlace("18: person -1", Scenes::held, x -> x.delegate(-1, 0, 3));
        CHECK.noPlace("18: person 5", Scenes::held, x -> x.delegate(5, 0, 3));
        CHECK.noPlace("18: other -1", Scenes::held, x -> x.delegate(1, 0, -1));
        CHECK.noPlace("18: other 5, ahead of no copy", Scenes::held, x -> x.delegate(4, 0, 5));
        CHECK.noPlace("18: meeting -1", Scenes::held, x -> x.delegate(1, -1, 3));
        CHECK.noPlace("18: meeting 1, ahead of the same", Scenes::held, x -> x.delegate(1, 1, 1));
        CHECK.badArgument("18: the same", Scenes::held, x -> x.delegate(1, 0, 1));
        CHECK.badArgument("18: to the organiser", Scenes::held, x -> x.delegate(1, 0, 0));
        CHECK.badArgument("18: the organiser ahead of no copy", Scenes::held, x -> x.delegate(4, 0, 0));
        CHECK.badState("18: no copy", Scenes::sent, x -> x.delegate(1, 0, 4));
        CHECK.badState("18: by the organiser", Scenes::held, x -> x.delegate(0, 0, 4));
        CHECK.badState("18: left out", OthersTest::leftOut, x -> x.delegate(1, 0, 4));
        CHECK.badState("18: a cancelled copy", OthersTest::cancelledCopy, x -> x.delegate(1, 0, 4));
        CHECK.badState("18: 149 messages", () -> Scenes.heldWithMessages(149), x -> x.delegate(1, 0, 4));
        CHECK.badState("18: 150 messages", () -> Scenes.heldWithMessages(150), x -> x.delegate(1, 0, 4));
    }

    // ---- 19

    private static void propose() {
        MeetingServer server = Scenes.repeatedHeld();
        server.setOffset(0, 4);
        int mark = server.mark(1);
        CHECK.due("19: number", server.propose(1, 0, 4, 300), 1);
        CHECK.due("19: kind", server.kindOf(1), MeetingServer.PROPOSAL);
        CHECK.due("19: line", Look.lines(server, 1), "proposal ba 0 2");
        CHECK.due("19: no mark", server.mark(1), mark);
        CHECK.due("19: no answer", server.ownAnswer(1, 0, 4), NEEDED);
        CHECK.due("19: not open yet", server.proposals(0), 0);
        server.deliver(1);
        server.take(1);
        CHECK.due("19: a local hour", server.begin(0, 0, 4), 296);
        server.drop(0, 6);
        CHECK.due("19: a date of the copy, no more of now", server.propose(1, 0, 6, 0), 2);
        CHECK.due("19: the highest hour", server.propose(1, 0, 8, 1439), 3);
        server.deliver(3);
        server.take(3);
        CHECK.due("19: taken, too", server.begin(0, 0, 8), 1435);
        CHECK.due("19: the 150th", Scenes.heldWithMessages(149).propose(2, 0, 3, 90), 149);
        MeetingServer stamped = Scenes.held();
        stamped.answer(1, 0, 3, ACCEPTED);
        stamped.propose(1, 0, 3, 90);
        stamped.answer(1, 0, NONE, DECLINED);
        CHECK.due("19: no reply", stamped.ownAnswer(1, 0, 3), DECLINED);
    }

    private static void proposeRefuses() {
        CHECK.noPlace("19: person -1", Scenes::held, x -> x.propose(-1, 0, 3, 90));
        CHECK.noPlace("19: person 5, ahead of the hour", Scenes::held, x -> x.propose(5, 0, 3, 1440));
        CHECK.noPlace("19: meeting -1", Scenes::held, x -> x.propose(1, -1, 3, 90));
        CHECK.noPlace("19: meeting 1, ahead of the day", Scenes::held, x -> x.propose(1, 1, 60, 90));
        CHECK.badArgument("19: day NONE", Scenes::held, x -> x.propose(1, 0, NONE, 90));
        CHECK.badArgument("19: day 60", Scenes::held, x -> x.propose(1, 0, 60, 90));
        CHECK.badArgument("19: hour -1", Scenes::held, x -> x.propose(1, 0, 3, -1));
        CHECK.badArgument("19: hour 1440", Scenes::held, x -> x.propose(1, 0, 3, 1440));
        CHECK.badArgument("19: the hour ahead of no copy", Scenes::held, x -> x.propose(4, 0, 3, 1440));
        CHECK.badState("19: no copy", Scenes::sent, x -> x.propose(1, 0, 3, 90));
        CHECK.badState("19: the organiser", Scenes::held, x -> x.propose(0, 0, 3, 90));
        CHECK.badState("19: left out", OthersTest::leftOut, x -> x.propose(1, 0, 3, 90));
        CHECK.badState("19: a cancelled copy", OthersTest::cancelledCopy, x -> x.propose(1, 0, 3, 90));
        CHECK.badState("19: no date", Scenes::held, x -> x.propose(1, 0, 4, 90));
        CHECK.badState("19: 150 messages", () -> Scenes.heldWithMessages(150), x -> x.propose(1, 0, 3, 90));
    }
}
