/** Promises 20 to 25. */
public final class MessagesTest {
    private static final Check CHECK = new Check("MessagesTest");
    private static final int NONE = MeetingServer.NONE;
    private static final int NEEDED = MeetingServer.NEEDED;
    private static final int ACCEPTED = MeetingServer.ACCEPTED;
    private static final int TENTATIVE = MeetingServer.TENTATIVE;
    private static final int DECLINED = MeetingServer.DECLINED;

    private MessagesTest() {
    }

    public static void main(String[] args) {
        deliverRequest();
        deliverReply();
        deliverRepliesOfDatesApart();
        deliverProposal();
        deliverRefuses();
        messages();
        kinds();
        lines();
        linesRefuse();
        CHECK.end();
    }

    // ---- 20

    private static void deliverRequest() {
        MeetingServer server = Scenes.sent();
        server.move(0, 3, 90);
        server.send(0);
        CHECK.due("20: a copy", server.deliver(0), true);
        CHECK.due("20: the receiver's", server.begin(1, 0, 3), 82);
        CHECK.due("20: mark", server.mark(1), 1);
        CHECK.due("20: the sender's mark", server.mark(0), 4);
        CHECK.due("20: the same again", server.deliver(0), false);
        CHECK.due("20: no mark by it", server.mark(1), 1);
        CHECK.due("20: a newer one", server.deliver(2), true);
        CHECK.due("20: newer copy", server.begin(1, 0, 3), 90);
        CHECK.due("20: mark by it", server.mark(1), 2);
        CHECK.due("20: an older one", server.deliver(0), false);
        CHECK.due("20: the newer copy stays", server.sequence(1, 0), 3);
        CHECK.due("20: the newer one first", server.deliver(3), true);
        CHECK.due("20: the older one then", server.deliver(1), false);
        CHECK.due("20: the newer one stays", server.sequence(2, 0), 3);
        server.send(0);
        CHECK.due("20: another with the same sequence", server.deliver(4), false);
        server.cancel(0);
        server.send(0);
        CHECK.due("20: of a cancelled one", server.deliver(6), true);
        CHECK.due("20: an older one on a copy that is gone", server.deliver(0), false);
        CHECK.due("20: gone", server.isThere(1, 0), false);
        server.move(server.make(0, 0, 1, 1, 1), 1, 5);
        server.invite(1, 1, true);
        server.send(1);
        CHECK.due("20: of another meeting", server.deliver(8), true);
    }

    private static void deliverReply() {
        MeetingServer server = Scenes.repeatedHeld();
        server.answer(1, 0, NONE, ACCEPTED);
        server.answer(1, 0, NONE, DECLINED);
        int mark = server.mark(0);
        int own = server.mark(1);
        CHECK.due("20: kept", server.deliver(1), true);
        CHECK.due("20: the organiser's mark", server.mark(0), mark + 1);
        CHECK.due("20: the person's mark", server.mark(1), own);
        CHECK.due("20: known", server.answerOf(0, 1, 4), ACCEPTED);
        CHECK.due("20: kept already", server.deliver(1), false);
        CHECK.due("20: no mark of the organiser", server.mark(0), mark + 1);
        CHECK.due("20: greater stamp", server.deliver(2), true);
        CHECK.due("20: mark by it", server.mark(0), mark + 2);
        CHECK.due("20: lower stamp", server.deliver(1), false);
        CHECK.due("20: the later one stays", server.answerOf(0, 1, 4), DECLINED);
        server.invite(0, 2, true);
        server.send(0);
        server.deliver(3);
        server.answer(1, 0, NONE, TENTATIVE);
        CHECK.due("20: greater sequence", server.deliver(5), true);
        CHECK.due("20: lower sequence", server.deliver(2), false);
        CHECK.due("20: known of the newer one", server.answerOf(0, 1, 4), TENTATIVE);
        CHECK.due("20: of one who is not asked, too", keptOfOneNotAsked(), true);
    }

    private static boolean keptOfOneNotAsked() {
        MeetingServer server = Scenes.repeatedHeld();
        server.delegate(1, 0, 3);
        server.deliver(2);
        server.answer(3, 0, 4, DECLINED);
        boolean isKept = server.deliver(3);
        CHECK.due("20: not asked yet", server.answerOf(0, 3, 4), NONE);
        server.deliver(1);
        CHECK.due("20: it matters then", server.answerOf(0, 3, 4), DECLINED);
        return isKept;
    }

    private static void deliverRepliesOfDatesApart() {
        MeetingServer server = Scenes.repeatedHeld();
        server.answer(1, 0, 4, ACCEPTED);
        server.answer(1, 0, 6, DECLINED);
        server.answer(1, 0, NONE, TENTATIVE);
        CHECK.due("20: for all", server.deliver(3), true);
        CHECK.due("20: a date apart", server.deliver(2), true);
        CHECK.due("20: another date apart", server.deliver(1), true);
        CHECK.due("20: none told by the older ones", server.answerOf(0, 1, 4), TENTATIVE);
        CHECK.due("20: other dates", server.answerOf(0, 1, 8), TENTATIVE);
    }

    private static void deliverProposal() {
        MeetingServer server = Scenes.held();
        server.propose(1, 0, 3, 90);
        int mark = server.mark(0);
        CHECK.due("20: a proposal", server.deliver(2), true);
        CHECK.due("20: open", server.proposals(0), 1);
        CHECK.due("20: again", server.deliver(2), false);
        CHECK.due("20: open once", server.proposals(0), 1);
        CHECK.due("20: no mark by it", server.mark(0), mark);
        server.propose(1, 0, 3, 91);
        server.cancel(0);
        CHECK.due("20: one that is not open", server.deliver(3), true);
        CHECK.due("20: again that one", server.deliver(3), false);
    }

    private static void deliverRefuses() {
        CHECK.noPlace("20: message -1", Scenes::held, x -> x.deliver(-1));
        CHECK.noPlace("20: message 2", Scenes::held, x -> x.deliver(2));
        CHECK.noPlace("20: none at all", MeetingServer::new, x -> x.deliver(0));
        CHECK.noPlace("20: message 150", () -> Scenes.heldWithMessages(150), x -> x.deliver(150));
        CHECK.due("20: the last one", Scenes.heldWithMessages(150).deliver(149), true);
    }

    // ---- 21 to 23

    private static void messages() {
        MeetingServer server = Scenes.sent();
        CHECK.due("21: two", server.messages(), 2);
        server.deliver(0);
        CHECK.due("21: delivered ones, too", server.messages(), 2);
        server.answer(1, 0, NONE, ACCEPTED);
        CHECK.due("21: a reply", server.messages(), 3);
        server.delegate(1, 0, 4);
        CHECK.due("21: two of a delegation", server.messages(), 5);
        server.propose(1, 0, 3, 5);
        CHECK.due("21: a proposal", server.messages(), 6);
    }

    /** Messages of all kinds: 0 a request to 2, 1 a reply to 4, 2 a request to 3, 3 a proposal to 4. */
    private static MeetingServer ofAllKinds() {
        MeetingServer server = new MeetingServer();
        server.make(4, 0, 3, 10, 2);
        server.invite(0, 2, true);
        server.send(0);
        server.deliver(0);
        server.delegate(2, 0, 3);
        server.propose(2, 0, 3, 30);
        return server;
    }

    private static void kinds() {
        MeetingServer server = ofAllKinds();
        int[] kinds = {MeetingServer.REQUEST, MeetingServer.REPLY, MeetingServer.REQUEST, MeetingServer.PROPOSAL};
        int[] receivers = {2, 4, 3, 4};
        for (int message = 0; message < 4; message++) {
            CHECK.due("22: kind of " + message, server.kindOf(message), kinds[message]);
            CHECK.due("23: receiver of " + message, server.receiver(message), receivers[message]);
        }
        CHECK.noPlace("22: message -1", MessagesTest::ofAllKinds, x -> x.kindOf(-1));
        CHECK.noPlace("22: message 4", MessagesTest::ofAllKinds, x -> x.kindOf(4));
        CHECK.noPlace("23: message -1", MessagesTest::ofAllKinds, x -> x.receiver(-1));
        CHECK.noPlace("23: message 4", MessagesTest::ofAllKinds, x -> x.receiver(4));
    }

    // ---- 24 and 25

    private static void lines() {
        MeetingServer server = ofAllKinds();
        String[] lines = {"request ec 0 1", "reply ce 0 1 delegated", "request cd 0 1", "proposal ce 0 1"};
        for (int message = 0; message < lines.length; message++) {
            CHECK.due("24: length of " + message, server.lineLength(message), lines[message].length());
            CHECK.due("25: line of " + message, Look.line(server, message), lines[message]);
        }
        MeetingServer full = Scenes.full();
        full.invite(7, 4, true);
        for (int change = 0; change < 11; change++) {
            full.move(7, 7, change);
        }
        full.send(7);
        full.deliver(0);
        full.answer(4, 7, 7, DECLINED);
        full.answer(4, 7, NONE, ACCEPTED);
        full.answer(4, 7, NONE, TENTATIVE);
        CHECK.due("25: longer numbers, and all answers", Look.lines(full, 0), "request ae 7 12,"
                + " reply ea 7 12 declined, reply ea 7 12 accepted, reply ea 7 12 tentative");
        CHECK.due("24: with two digits", full.lineLength(0), 15);
    }

    private static void linesRefuse() {
        CHECK.noPlace("24: message -1", MessagesTest::ofAllKinds, x -> x.lineLength(-1));
        CHECK.noPlace("24: message 4", MessagesTest::ofAllKinds, x -> x.lineLength(4));
        CHECK.noPlace("25: message -1", MessagesTest::ofAllKinds, x -> x.lineChar(-1, 0));
        CHECK.noPlace("25: message 4", MessagesTest::ofAllKinds, x -> x.lineChar(4, 0));
        CHECK.noPlace("25: place -1", MessagesTest::ofAllKinds, x -> x.lineChar(0, -1));
        CHECK.noPlace("25: place 14", MessagesTest::ofAllKinds, x -> x.lineChar(0, 14));
        CHECK.due("25: the last place", ofAllKinds().lineChar(0, 13), '1');
    }
}
