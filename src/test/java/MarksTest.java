/** Promises 42 to 44. */
public final class MarksTest {
    private static final Check CHECK = new Check("MarksTest");
    private static final int NONE = MeetingServer.NONE;
    private static final int ACCEPTED = MeetingServer.ACCEPTED;

    private MarksTest() {
    }

    public static void main(String[] args) {
        marksOfTheOrganiser();
        marksOfOthers();
        changes();
        forgottenByTheOrganiser();
        thereAgain();
        forgottenByOthers();
        firstMarkGone();
        backFromGone();
        refuse();
        CHECK.end();
    }

    // ---- 42

    private static void marked(String what, MeetingServer server, int person, int want) {
        CHECK.due("42: " + what, server.mark(person), want);
    }

    private static void marksOfTheOrganiser() {
        MeetingServer server = new MeetingServer();
        marked("at first", server, 2, 0);
        server.make(2, 0, 3, 10, 2);
        marked("make", server, 2, 1);
        server.time(0, 4, 10, 2);
        marked("time", server, 2, 2);
        server.repeat(0, 1, 127, 5);
        marked("repeat", server, 2, 3);
        server.drop(0, 5);
        marked("drop", server, 2, 4);
        server.add(0, 20);
        marked("add", server, 2, 5);
        server.move(0, 20, 500);
        marked("move", server, 2, 6);
        server.invite(0, 1, true);
        server.invite(0, 3, false);
        marked("invite", server, 2, 8);
        server.send(0);
        server.deliver(0);
        marked("send and its delivery", server, 2, 8);
        server.propose(1, 0, 20, 510);
        server.propose(1, 0, 20, 520);
        server.deliver(2);
        server.deliver(3);
        server.refuse(2);
        marked("proposals and a refusal", server, 2, 8);
        server.take(3);
        marked("take", server, 2, 9);
        server.answer(1, 0, NONE, ACCEPTED);
        marked("a reply that has not come", server, 2, 9);
        server.deliver(4);
        marked("a reply that is kept", server, 2, 10);
        server.deliver(4);
        marked("the same again", server, 2, 10);
        server.cancel(0);
        marked("cancel", server, 2, 11);
        server.send(0);
        marked("send of a cancelled one", server, 2, 11);
        marked("of one who has nothing to do with it", server, 0, 0);
        marked("of one who was sent something", server, 3, 0);
    }

    private static void marksOfOthers() {
        MeetingServer server = Scenes.sent();
        marked("sent", server, 1, 0);
        server.deliver(0);
        marked("a copy", server, 1, 1);
        server.deliver(0);
        marked("the same again", server, 1, 1);
        server.answer(1, 0, NONE, ACCEPTED);
        marked("a reply", server, 1, 2);
        server.deliver(2);
        marked("its delivery", server, 1, 2);
        server.delegate(1, 0, 3);
        marked("a delegation", server, 1, 3);
        marked("the delegate", server, 3, 0);
        server.deliver(4);
        marked("the delegate's copy", server, 3, 1);
        server.propose(1, 0, 3, 90);
        marked("a proposal", server, 1, 3);
        server.cancel(0);
        marked("a change by the organiser", server, 1, 3);
        server.send(0);
        server.deliver(6);
        marked("a cancelled copy", server, 1, 4);
    }

    // ---- 43 and 44

    private static void changed(String what, MeetingServer server, int person, int mark, String want) {
        CHECK.due("43: " + what, server.changes(person, mark), want.isEmpty() ? 0 : want.split(" ").length);
        CHECK.due("44: " + what, Look.changes(server, person, mark), want);
    }

    private static void changes() {
        MeetingServer server = new MeetingServer();
        changed("at first", server, 0, 0, "");
        for (int meeting = 0; meeting < 4; meeting++) {
            server.make(0, 0, meeting, 10, 1);
        }
        changed("all", server, 0, 0, "0 1 2 3");
        changed("above 2", server, 0, 2, "2 3");
        changed("above its mark", server, 0, 4, "");
        server.move(1, 1, 50);
        changed("an entry has one mark", server, 0, 0, "0 2 3 1");
        changed("above 1", server, 0, 1, "2 3 1");
        changed("above 2 again", server, 0, 2, "2 3 1");
        changed("above 4", server, 0, 4, "1");
        server.invite(3, 1, true);
        server.send(3);
        server.deliver(0);
        changed("of the organiser", server, 0, 0, "0 2 1 3");
        changed("of another person", server, 1, 0, "3");
        changed("of another person, above", server, 1, 1, "");
        changed("of none", server, 4, 0, "");
        server.cancel(2);
        changed("one that is gone", server, 0, 4, "1 3 2");
    }

    private static void forgottenByTheOrganiser() {
        MeetingServer server = new MeetingServer();
        for (int meeting = 0; meeting < 5; meeting++) {
            server.make(0, 0, meeting, 10, 1);
        }
        server.cancel(1);
        server.cancel(0);
        server.cancel(2);
        changed("three gone", server, 0, 0, "3 4 1 0 2");
        server.cancel(3);
        marked("four cancelled", server, 0, 9);
        CHECK.due("43: the floor", Look.canBeAsked(server, 0, 6), true);
        CHECK.due("43: below the floor", Look.canBeAsked(server, 0, 5), false);
        CHECK.due("43: 0", Look.canBeAsked(server, 0, 0), false);
        changed("the lowest one is forgotten", server, 0, 6, "0 2 3");
        server.cancel(4);
        CHECK.due("43: the next floor", Look.canBeAsked(server, 0, 7), true);
        CHECK.due("43: below it", Look.canBeAsked(server, 0, 6), false);
        changed("the next one is forgotten", server, 0, 7, "2 3 4");
        changed("above 9", server, 0, 9, "4");
        server.make(0, 0, 9, 10, 1);
        changed("one that is there", server, 0, 7, "2 3 4 5");
        changed("floors of others", server, 1, 0, "");
    }

    private static void thereAgain() {
        MeetingServer server = Scenes.held();
        server.answer(1, 0, NONE, ACCEPTED);
        for (int meeting = 1; meeting < 5; meeting++) {
            server.make(0, 0, meeting, 10, 1);
        }
        for (int meeting = 0; meeting < 4; meeting++) {
            server.cancel(meeting);
        }
        marked("cancelled", server, 0, 11);
        changed("forgotten", server, 0, 8, "1 2 3");
        server.deliver(2);
        changed("there again, and another one forgotten", server, 0, 9, "2 3 0");
        CHECK.due("43: the floor then", Look.canBeAsked(server, 0, 8), false);
        CHECK.due("43: the answer is kept", server.answerOf(0, 1, 3), ACCEPTED);
    }

    /** Person 1 is invited to five meetings of person 0 and has copies, with the marks 1 to 5. */
    private static MeetingServer guest() {
        MeetingServer server = new MeetingServer();
        for (int meeting = 0; meeting < 5; meeting++) {
            server.make(0, 0, meeting, 10, 1);
            server.invite(meeting, 1, true);
            server.send(meeting);
            server.deliver(meeting);
        }
        return server;
    }

    private static void end(MeetingServer server, int meeting) {
        if (meeting % 2 == 0) {
            server.cancel(meeting);
        } else {
            server.invite(meeting, 1, false);
        }
        server.send(meeting);
    }

    private static void forgottenByOthers() {
        MeetingServer server = guest();
        for (int meeting = 0; meeting < 5; meeting++) {
            end(server, meeting);
        }
        changed("not come", server, 1, 0, "0 1 2 3 4");
        server.deliver(6);
        server.deliver(5);
        server.deliver(7);
        changed("three gone", server, 1, 0, "3 4 1 0 2");
        server.deliver(8);
        changed("the lowest one is forgotten", server, 1, 6, "0 2 3");
        CHECK.due("43: below the floor", Look.canBeAsked(server, 1, 5), false);
        server.deliver(9);
        changed("the next one, too", server, 1, 7, "2 3 4");
        CHECK.due("28: the copy is not forgotten", server.sequence(1, 1), 2);
    }

    private static void firstMarkGone() {
        MeetingServer server = new MeetingServer();
        for (int meeting = 0; meeting < 4; meeting++) {
            server.make(0, 0, meeting, 10, 1);
            server.invite(meeting, 1, false);
            server.send(meeting);
            server.deliver(meeting);
        }
        changed("left out from the first one on", server, 1, 1, "1 2 3");
        CHECK.due("43: the floor 1", Look.canBeAsked(server, 1, 0), false);
    }

    private static void backFromGone() {
        MeetingServer server = guest();
        server.invite(0, 1, false);
        server.send(0);
        server.deliver(5);
        server.invite(0, 1, true);
        server.send(0);
        server.deliver(6);
        for (int meeting = 1; meeting < 4; meeting++) {
            end(server, meeting);
            server.deliver(server.messages() - 1);
        }
        changed("one that came back is gone no more", server, 1, 0, "4 0 1 2 3");
        end(server, 4);
        server.deliver(server.messages() - 1);
        changed("forgotten is only what is gone", server, 1, 8, "2 3 4");
        server.answer(1, 0, NONE, ACCEPTED);
        changed("and gets its marks", server, 1, 8, "2 3 4 0");
    }

    private static void refuse() {
        CHECK.noPlace("42: person -1", Scenes::held, x -> x.mark(-1));
        CHECK.noPlace("42: person 5", Scenes::held, x -> x.mark(5));
        CHECK.noPlace("43: person -1", Scenes::held, x -> x.changes(-1, 0));
        CHECK.noPlace("43: person 5, ahead of the mark", Scenes::held, x -> x.changes(5, -1));
        CHECK.badArgument("43: mark -1", Scenes::held, x -> x.changes(0, -1));
        CHECK.badArgument("43: above the person's mark", Scenes::held, x -> x.changes(1, 2));
        CHECK.due("43: the person's mark", Scenes.held().changes(1, 1), 0);
        CHECK.badState("43: below the floor", MarksTest::forgetful, x -> x.changes(0, 8));
        CHECK.due("43: the floor", forgetful().changes(0, 9), 3);
        CHECK.badArgument("43: mark -1, ahead of the floor", MarksTest::forgetful, x -> x.changes(0, -1));
        CHECK.noPlace("44: person -1", Scenes::held, x -> x.changeAt(-1, 0, 0));
        CHECK.noPlace("44: person 5, ahead of the mark", Scenes::held, x -> x.changeAt(5, -1, 0));
        CHECK.badArgument("44: mark -1", Scenes::held, x -> x.changeAt(0, -1, 0));
        CHECK.badArgument("44: above the person's mark", Scenes::held, x -> x.changeAt(1, 2, 0));
        CHECK.badArgument("44: the mark ahead of the place", Scenes::held, x -> x.changeAt(1, 2, -1));
        CHECK.badState("44: below the floor", MarksTest::forgetful, x -> x.changeAt(0, 8, 0));
        CHECK.badState("44: below the floor, ahead of the place", MarksTest::forgetful, x -> x.changeAt(0, 0, 99));
        CHECK.noPlace("44: place -1", Scenes::held, x -> x.changeAt(0, 0, -1));
        CHECK.noPlace("44: place 1", Scenes::held, x -> x.changeAt(0, 0, 1));
        CHECK.noPlace("44: place 0 of none", Scenes::held, x -> x.changeAt(1, 1, 0));
        CHECK.noPlace("44: place 3", MarksTest::forgetful, x -> x.changeAt(0, 9, 3));
        CHECK.due("44: place 2", forgetful().changeAt(0, 9, 2), 3);
    }

    /** Of eight meetings of person 0 the first four are cancelled: the floor is 9. */
    private static MeetingServer forgetful() {
        MeetingServer server = Scenes.full();
        for (int meeting = 0; meeting < 4; meeting++) {
            server.cancel(meeting);
        }
        return server;
    }
}
