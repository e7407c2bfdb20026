/** Promises 33 to 38. */
public final class KnownTest {
    private static final Check CHECK = new Check("KnownTest");
    private static final int NONE = MeetingServer.NONE;
    private static final int NEEDED = MeetingServer.NEEDED;
    private static final int ACCEPTED = MeetingServer.ACCEPTED;
    private static final int TENTATIVE = MeetingServer.TENTATIVE;
    private static final int DECLINED = MeetingServer.DECLINED;
    private static final int DELEGATED = MeetingServer.DELEGATED;

    private KnownTest() {
    }

    public static void main(String[] args) {
        isAsked();
        chainsOfDelegates();
        chainsThatEnd();
        answers();
        answersInAnyOrder();
        answersOfDelegates();
        answersByTheLogAlone();
        answersOfPeopleAndDaysApart();
        agrees();
        agreesOnEachDate();
        proposals();
        refuse();
        CHECK.end();
    }

    private static void deliverFrom(MeetingServer server, int first) {
        for (int message = first; message < server.messages(); message++) {
            server.deliver(message);
        }
    }

    // ---- 33

    private static void isAsked() {
        MeetingServer server = Scenes.invited();
        CHECK.due("33: invited", server.isAsked(0, 1) && server.isAsked(0, 2), true);
        CHECK.due("33: not invited", server.isAsked(0, 3), false);
        CHECK.due("33: the organiser", server.isAsked(0, 0), false);
        server.invite(0, 1, false);
        CHECK.due("33: left out", server.isAsked(0, 1), false);
        server.cancel(0);
        CHECK.due("33: cancelled", server.isAsked(0, 2), true);
        server.make(1, 0, 0, 0, 1);
        CHECK.due("33: of another meeting", server.isAsked(1, 2), false);
    }

    /** Person 1 is invited and delegates to 2, 2 to 3 and 3 to 4; all copies are there, no reply has come. */
    private static MeetingServer chain() {
        MeetingServer server = Scenes.repeatedHeld();
        for (int person = 1; person < 4; person++) {
            server.delegate(person, 0, person + 1);
            server.deliver(server.messages() - 1);
        }
        return server;
    }

    private static String asked(MeetingServer server) {
        StringBuilder text = new StringBuilder();
        for (int person = 0; person < 5; person++) {
            text.append(server.isAsked(0, person) ? person : "");
        }
        return text.toString();
    }

    private static void chainsOfDelegates() {
        MeetingServer server = chain();
        CHECK.due("33: none has come", asked(server), "1");
        server.deliver(5);
        server.deliver(3);
        CHECK.due("33: of those who are not asked", asked(server), "1");
        CHECK.due("34: not asked", server.answerOf(0, 2, 4), NONE);
        server.deliver(1);
        CHECK.due("33: the whole chain", asked(server), "1234");
        CHECK.due("34: in the chain", server.answerOf(0, 2, 4), DELEGATED);
        CHECK.due("34: at its end", server.answerOf(0, 4, 4), NEEDED);
        server.delegate(4, 0, 1);
        server.deliver(7);
        CHECK.due("33: a ring", asked(server), "1234");
        server.invite(0, 1, false);
        CHECK.due("33: the ring without its first one", asked(server), "");
        CHECK.due("35: by the log", server.answerByLog(0, 3, 4), NONE);
        server.invite(0, 4, true);
        CHECK.due("33: to one who is left out", asked(server), "4");
        MeetingServer down = new MeetingServer();
        down.make(0, 0, 3, 10, 1);
        down.invite(0, 4, true);
        down.send(0);
        down.deliver(0);
        for (int person = 4; person > 1; person--) {
            down.delegate(person, 0, person - 1);
            deliverFrom(down, down.messages() - 2);
        }
        CHECK.due("33: a chain to lower numbers", asked(down), "1234");
        CHECK.due("35: such a one by the log", down.answerByLog(0, 1, 3), NEEDED);
    }

    private static void chainsThatEnd() {
        MeetingServer server = chain();
        deliverFrom(server, 1);
        server.answer(2, 0, 4, ACCEPTED);
        server.deliver(7);
        CHECK.due("33: an answer for a date ends none", asked(server), "1234");
        server.invite(0, 3, false);
        CHECK.due("33: one left out ends it", asked(server), "12");
        server.invite(0, 3, true);
        CHECK.due("33: invited again", asked(server), "1234");
        server.time(0, 2, 9, 1);
        CHECK.due("33: whatever the stand", asked(server), "1234");
        CHECK.due("34: but by the stand", server.answerOf(0, 1, 4), NEEDED);
        server.answer(1, 0, NONE, DECLINED);
        CHECK.due("33: not come yet", asked(server), "1234");
        server.deliver(8);
        CHECK.due("33: a newer answer for all ends it", asked(server), "134");
        server.answer(3, 0, NONE, ACCEPTED);
        server.deliver(9);
        CHECK.due("33: the next one, too", asked(server), "13");
    }

    // ---- 34 and 35

    private static void known(String what, MeetingServer server, int person, int day, int want) {
        CHECK.due("34: " + what, server.answerOf(0, person, day), want);
        CHECK.due("35: " + what, server.answerByLog(0, person, day), want);
    }

    private static void answers() {
        MeetingServer server = Scenes.repeatedHeld();
        known("needed", server, 1, 4, NEEDED);
        known("not asked", server, 2, 4, NONE);
        known("the organiser", server, 0, 4, NONE);
        server.answer(1, 0, NONE, TENTATIVE);
        known("not come", server, 1, 4, NEEDED);
        server.deliver(1);
        known("for all", server, 1, 4, TENTATIVE);
        server.answer(1, 0, 4, DECLINED);
        server.deliver(2);
        known("for the date", server, 1, 4, DECLINED);
        known("for another date", server, 1, 6, TENTATIVE);
        server.move(0, 6, 300);
        known("below the stand", server, 1, 6, NEEDED);
        known("of another day", server, 1, 8, TENTATIVE);
        server.send(0);
        server.deliver(3);
        server.answer(1, 0, 6, ACCEPTED);
        server.deliver(4);
        known("with the stand as its sequence", server, 1, 6, ACCEPTED);
        server.move(0, 8, 310);
        server.send(0);
        server.deliver(5);
        server.answer(1, 0, NONE, TENTATIVE);
        CHECK.due("32: for all, with the stand as its sequence", server.ownAnswer(1, 0, 8), TENTATIVE);
        known("the one for all below the stand", server, 1, 8, NEEDED);
        server.deliver(6);
        known("for all, with the stand as its sequence", server, 1, 8, TENTATIVE);
        server.answer(1, 0, 4, DECLINED);
        server.deliver(7);
        server.cancel(0);
        known("cancelled", server, 1, 4, DECLINED);
        server.invite(server.make(1, 0, 4, 1, 1), 2, true);
        CHECK.due("34: of another meeting", server.answerOf(1, 2, 4), NEEDED);
        CHECK.due("35: of another meeting", server.answerByLog(1, 2, 4), NEEDED);
        CHECK.due("35: and there not asked", server.answerByLog(1, 1, 4), NONE);
    }

    /** Three replies for a date and for all, with two sequences, in each order. */
    private static void answersInAnyOrder() {
        int[][] orders = {{1, 2, 4, 5}, {5, 4, 2, 1}, {4, 1, 5, 2}, {2, 5, 1, 4}, {5, 1, 2, 4}, {2, 2, 1, 5, 4, 1, 5}};
        for (int[] order : orders) {
            MeetingServer server = Scenes.repeatedHeld();
            server.answer(1, 0, 4, DECLINED);
            server.answer(1, 0, NONE, ACCEPTED);
            server.invite(0, 1, false);
            server.invite(0, 1, true);
            server.send(0);
            server.deliver(3);
            server.answer(1, 0, 6, TENTATIVE);
            server.answer(1, 0, 4, TENTATIVE);
            for (int message : order) {
                server.deliver(message);
            }
            known("the newer one of the date", server, 1, 4, TENTATIVE);
            known("the newer one of another date", server, 1, 6, TENTATIVE);
            known("the one for all", server, 1, 8, ACCEPTED);
        }
        MeetingServer server = Scenes.repeatedHeld();
        server.answer(1, 0, 4, DECLINED);
        server.answer(1, 0, NONE, ACCEPTED);
        server.deliver(2);
        server.deliver(1);
        known("the greater stamp, come first", server, 1, 4, ACCEPTED);
    }

    private static void answersOfDelegates() {
        MeetingServer server = Scenes.repeatedHeld();
        server.delegate(1, 0, 3);
        server.deliver(2);
        server.answer(3, 0, NONE, ACCEPTED);
        server.deliver(3);
        known("of one who is not asked", server, 3, 4, NONE);
        server.deliver(1);
        known("of one who is asked now", server, 3, 4, ACCEPTED);
        known("delegated", server, 1, 4, DELEGATED);
        server.invite(0, 3, false);
        known("of one who is left out", server, 3, 4, NONE);
        known("delegated all the same", server, 1, 4, DELEGATED);
    }

    /** Of two meetings, with delegations of different people: nothing of another call helps it. */
    private static void answersByTheLogAlone() {
        MeetingServer server = new MeetingServer();
        for (int meeting = 0; meeting < 2; meeting++) {
            server.make(4, 0, 3, 10, 1);
            server.invite(meeting, meeting, true);
            server.send(meeting);
            server.deliver(server.messages() - 1);
            server.delegate(meeting, meeting, 2 + meeting);
            deliverFrom(server, server.messages() - 2);
        }
        CHECK.due("35: a delegate", server.answerByLog(0, 2, 3), NEEDED);
        CHECK.due("35: a delegate of the other meeting", server.answerByLog(1, 3, 3), NEEDED);
        CHECK.due("35: who delegated", server.answerByLog(0, 0, 3), DELEGATED);
        CHECK.due("35: delegate of the other meeting alone", server.answerByLog(0, 3, 3), NONE);
        CHECK.due("34: the person 0 who delegated", server.answerOf(0, 0, 3), DELEGATED);
        CHECK.due("33: the delegate of the person 0", server.isAsked(0, 2), true);
        CHECK.due("36: the person 0 agrees", server.agrees(0), true);
        server.answer(0, 0, NONE, ACCEPTED);
        CHECK.due("36: the person 0 does not agree", server.agrees(0), false);
    }

    /** One answer for one date matters to this person and this date alone. */
    private static void answersOfPeopleAndDaysApart() {
        for (int organiser = 0; organiser < 5; organiser += 4) {
            for (int day = 0; day < 60; day += 59) {
                for (int person = 0; person < 5; person++) {
                    if (person != organiser) {
                        answersApart(organiser, person, day);
                    }
                }
            }
        }
        answersApart(0, 1, 58);
        answersApart(0, 2, 1);
    }

    private static void answersApart(int organiser, int who, int date) {
        for (int person = 0; person < 5; person++) {
            MeetingServer server = oneAnswerApart(organiser, who, date);
            for (int day = 0; day < 60 && person != organiser; day++) {
                int want = person == who && day == date ? ACCEPTED : TENTATIVE;
                known("of person " + person + " for " + day, server, person, day, want);
                CHECK.due("32: of person " + person + " for " + day, server.ownAnswer(person, 0, day), want);
            }
        }
    }

    /** A meeting on all days, for all of which all but one for a date are TENTATIVE. */
    private static MeetingServer oneAnswerApart(int organiser, int who, int date) {
        MeetingServer server = new MeetingServer();
        server.make(organiser, 0, 0, 9, 1);
        for (int day = 1; day < 60; day++) {
            server.add(0, day);
        }
        for (int person = 0; person < 5; person++) {
            if (person != organiser) {
                server.invite(0, person, true);
            }
        }
        server.send(0);
        deliverFrom(server, 0);
        for (int person = 0; person < 5; person++) {
            if (person != organiser) {
                server.answer(person, 0, NONE, TENTATIVE);
            }
        }
        deliverFrom(server, 4);
        server.deliver(server.answer(who, 0, date, ACCEPTED));
        return server;
    }

    // ---- 36

    private static void agrees() {
        MeetingServer server = Scenes.made();
        CHECK.due("36: nobody is asked", server.agrees(0), true);
        server.invite(0, 1, true);
        CHECK.due("36: no copy", server.agrees(0), false);
        server.send(0);
        server.deliver(0);
        CHECK.due("36: copy of now", server.agrees(0), true);
        server.invite(0, 2, true);
        CHECK.due("36: copy of before, and none", server.agrees(0), false);
        server.send(0);
        server.deliver(2);
        CHECK.due("36: one has the copy of before", server.agrees(0), false);
        server.deliver(1);
        CHECK.due("36: both", server.agrees(0), true);
        server.answer(1, 0, NONE, ACCEPTED);
        CHECK.due("36: the organiser does not know", server.agrees(0), false);
        server.deliver(3);
        CHECK.due("36: knows", server.agrees(0), true);
        server.delegate(2, 0, 4);
        server.deliver(4);
        CHECK.due("36: the delegate has no copy", server.agrees(0), false);
        server.deliver(5);
        CHECK.due("36: has one", server.agrees(0), true);
        server.cancel(0);
        CHECK.due("36: cancelled", server.agrees(0), false);
        server.send(0);
        deliverFrom(server, 6);
        CHECK.due("36: cancelled for all", server.agrees(0), false);
        MeetingServer out = Scenes.held();
        out.invite(0, 1, false);
        out.send(0);
        out.deliver(3);
        CHECK.due("36: one left out does not matter", out.agrees(0), true);
        CHECK.due("36: no meeting of one's own", out.agrees(out.make(1, 0, 0, 0, 1)), true);
    }

    private static void agreesOnEachDate() {
        MeetingServer server = Scenes.accepted();
        CHECK.due("36: for all", server.agrees(0), true);
        server.answer(1, 0, 10, DECLINED);
        CHECK.due("36: not on the last date", server.agrees(0), false);
        server.deliver(2);
        CHECK.due("36: on each date", server.agrees(0), true);
        server.answer(1, 0, 10, DECLINED);
        CHECK.due("36: the same answer, not come", server.agrees(0), true);
        server.deliver(3);
        server.answer(1, 0, 2, TENTATIVE);
        CHECK.due("36: not on the first date", server.agrees(0), false);
        server.drop(0, 2);
        server.send(0);
        server.deliver(5);
        CHECK.due("36: no date any more", server.agrees(0), true);
    }

    // ---- 37 and 38

    /** accepted(), and person 1 proposes for the days 2, 4, 4 and 6, by the messages 2 to 5; 5 has not come. */
    private static MeetingServer proposed() {
        MeetingServer server = Scenes.accepted();
        server.propose(1, 0, 2, 100);
        server.propose(1, 0, 4, 200);
        server.propose(1, 0, 4, 300);
        server.propose(1, 0, 6, 400);
        server.deliver(4);
        server.deliver(2);
        server.deliver(3);
        return server;
    }

    private static void open(String what, MeetingServer server, String want) {
        CHECK.due("38: " + what, Look.proposals(server, 0), want);
        CHECK.due("37: " + what, server.proposals(0), want.isEmpty() ? 0 : want.split(" ").length);
    }

    private static void proposals() {
        MeetingServer server = proposed();
        open("come", server, "2 3 4");
        server.deliver(5);
        open("all come", server, "2 3 4 5");
        server.refuse(3);
        open("one refused", server, "2 4 5");
        server.invite(0, 2, true);
        open("no time changed", server, "2 4 5");
        server.take(5);
        open("one taken", server, "2 4");
        server.add(0, 5);
        open("another day added", server, "2 4");
        server.drop(0, 2);
        open("dropped", server, "4");
        server.add(0, 2);
        open("added again", server, "4");
        server.deliver(2);
        server.deliver(3);
        open("delivered again", server, "4");
        server.make(0, 0, 4, 1, 1);
        CHECK.due("37: of another meeting", server.proposals(1), 0);
        server.cancel(0);
        open("cancelled", server, "");
        MeetingServer moved = proposed();
        moved.move(0, 4, 100);
        open("moved", moved, "2");
        moved.send(0);
        moved.deliver(6);
        moved.propose(1, 0, 4, 250);
        moved.deliver(7);
        open("made behind the move", moved, "2 7");
        moved.repeat(0, 1, 127, 10);
        open("another rule", moved, "");
        MeetingServer timed = proposed();
        timed.time(0, 2, 9, 1);
        open("another time", timed, "");
        timed.deliver(5);
        open("come later", timed, "");
    }

    // ---- wrong inputs

    private static void refuse() {
        CHECK.noPlace("33: meeting -1", Scenes::held, x -> x.isAsked(-1, 1));
        CHECK.noPlace("33: meeting 1", Scenes::held, x -> x.isAsked(1, 1));
        CHECK.noPlace("33: person -1", Scenes::held, x -> x.isAsked(0, -1));
        CHECK.noPlace("33: person 5", Scenes::held, x -> x.isAsked(0, 5));
        CHECK.noPlace("34: meeting -1", Scenes::held, x -> x.answerOf(-1, 1, 3));
        CHECK.noPlace("34: meeting 1, ahead of the day", Scenes::held, x -> x.answerOf(1, 1, 60));
        CHECK.noPlace("34: person -1", Scenes::held, x -> x.answerOf(0, -1, 3));
        CHECK.noPlace("34: person 5, ahead of the day", Scenes::held, x -> x.answerOf(0, 5, -1));
        CHECK.badArgument("34: day -1", Scenes::held, x -> x.answerOf(0, 1, -1));
        CHECK.badArgument("34: day 60", Scenes::held, x -> x.answerOf(0, 1, 60));
        CHECK.badState("34: no date", Scenes::held, x -> x.answerOf(0, 1, 4));
        CHECK.badState("34: no date, ahead of not asked", Scenes::held, x -> x.answerOf(0, 0, 4));
        CHECK.noPlace("35: meeting -1", Scenes::held, x -> x.answerByLog(-1, 1, 3));
        CHECK.noPlace("35: meeting 1, ahead of the day", Scenes::held, x -> x.answerByLog(1, 1, 60));
        CHECK.noPlace("35: person -1", Scenes::held, x -> x.answerByLog(0, -1, 3));
        CHECK.noPlace("35: person 5, ahead of the day", Scenes::held, x -> x.answerByLog(0, 5, -1));
        CHECK.badArgument("35: day -1", Scenes::held, x -> x.answerByLog(0, 1, -1));
        CHECK.badArgument("35: day 60", Scenes::held, x -> x.answerByLog(0, 1, 60));
        CHECK.badState("35: no date", Scenes::held, x -> x.answerByLog(0, 1, 4));
        CHECK.badState("35: no date, ahead of not asked", Scenes::held, x -> x.answerByLog(0, 0, 4));
        CHECK.noPlace("36: meeting -1", Scenes::held, x -> x.agrees(-1));
        CHECK.noPlace("36: meeting 1", Scenes::held, x -> x.agrees(1));
        CHECK.noPlace("37: meeting -1", Scenes::held, x -> x.proposals(-1));
        CHECK.noPlace("37: meeting 1", Scenes::held, x -> x.proposals(1));
        CHECK.noPlace("38: meeting -1", KnownTest::proposed, x -> x.proposalAt(-1, 0));
        CHECK.noPlace("38: meeting 1", KnownTest::proposed, x -> x.proposalAt(1, 0));
        CHECK.noPlace("38: place -1", KnownTest::proposed, x -> x.proposalAt(0, -1));
        CHECK.noPlace("38: place 3", KnownTest::proposed, x -> x.proposalAt(0, 3));
        CHECK.noPlace("38: none open", Scenes::held, x -> x.proposalAt(0, 0));
    }
}
