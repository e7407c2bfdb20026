/** The sentences of 'Answers', and of the promises 33 to 38. */
final class EdgesOfAnswers {
    private static final String CHAPTER = "Answers";
    private static final int NONE = MeetingServer.NONE;
    private static final int NEEDED = MeetingServer.NEEDED;
    private static final int ACCEPTED = MeetingServer.ACCEPTED;
    private static final int TENTATIVE = MeetingServer.TENTATIVE;
    private static final int DECLINED = MeetingServer.DECLINED;
    private static final int DELEGATED = MeetingServer.DELEGATED;

    private final Edges edges;

    EdgesOfAnswers(Edges edges) {
        this.edges = edges;
    }

    void run() {
        sequenceAndStand();
        sequenceAheadOfStamp();
        noneCounts();
        whoKnowsWhat();
        askedByDelegation();
        delegationsInARing();
        delegationThatIsKept();
        leftOutDelegates();
        repliesOfOthersAreKept();
        organiserIsNeverAsked();
        openFromWhenItHasCome();
        openUntil();
        openAsLongAs();
        cancelledOrNot();
        isAsked();
        answerOf();
        answerByLog();
        agrees();
        agreesOnEachDate();
        proposals();
        proposalAt();
    }

    /** Both ways of finding what the organiser knows must tell the same. */
    private void known(String what, MeetingServer server, int person, int day, int want) {
        edges.due(what, server.answerOf(0, person, day), want);
        edges.due(what + ", by the log", server.answerByLog(0, person, day), want);
    }

    private void asked(String what, MeetingServer server, String want) {
        StringBuilder text = new StringBuilder();
        for (int person = 0; person < 5; person++) {
            text.append(server.isAsked(0, person) ? person : "");
        }
        edges.due(what, text.toString(), want);
    }

    /** A new version of the meeting 0 comes to person 1. */
    private static void bring(MeetingServer server) {
        int first = server.messages();
        int count = server.send(0);
        for (int message = first; message < first + count; message++) {
            if (server.receiver(message) == 1) {
                server.deliver(message);
            }
        }
    }

    // ---- the answer

    private void sequenceAndStand() {
        edges.of(CHAPTER, "of these only those with at least the stand of the day as their sequence count");
        MeetingServer server = Scenes.wide();
        server.move(0, 3, 90);
        server.answer(1, 0, NONE, TENTATIVE);
        server.answer(1, 0, 3, DECLINED);
        server.deliver(8);
        server.deliver(9);
        known("a sequence that is 1 less than the stand", server, 1, 3, NEEDED);
        known("a day with a lower stand", server, 1, 59, TENTATIVE);
        bring(server);
        server.deliver(server.answer(1, 0, 3, ACCEPTED));
        known("the stand as the sequence, for the date", server, 1, 3, ACCEPTED);
        server.move(0, 3, 95);
        bring(server);
        server.deliver(server.answer(1, 0, NONE, ACCEPTED));
        known("the stand as the sequence, for all", server, 1, 3, ACCEPTED);
        edges.due("as the person knows it", server.ownAnswer(1, 0, 3), ACCEPTED);
        server.move(0, 3, 96);
        server.move(0, 59, 97);
        known("both below the stand", server, 1, 3, NEEDED);
        known("not of a day that was not moved", server, 1, 0, ACCEPTED);
    }

    private void sequenceAheadOfStamp() {
        edges.of(CHAPTER, "and of both the one with the greater sequence, of the same ones that with the greater stamp");
        MeetingServer server = Scenes.wide();
        server.answer(1, 0, 3, DECLINED);
        server.answer(1, 0, NONE, ACCEPTED);
        server.answer(1, 0, 3, TENTATIVE);
        server.deliver(9);
        server.deliver(8);
        known("for all with the greater stamp", server, 1, 3, ACCEPTED);
        server.deliver(10);
        known("for the date with the greater stamp", server, 1, 3, TENTATIVE);
        server.invite(0, 4, false);
        bring(server);
        server.deliver(server.answer(1, 0, NONE, DECLINED));
        known("for all with the greater sequence", server, 1, 3, DECLINED);
        server.invite(0, 4, true);
        bring(server);
        server.deliver(server.answer(1, 0, 3, ACCEPTED));
        known("for the date with the greater sequence", server, 1, 3, ACCEPTED);
        edges.due("as the person knows it", server.ownAnswer(1, 0, 3), ACCEPTED);
        edges.of(CHAPTER, "The answer of a person for a date is told by two replies: the one that is kept for this date,"
                + " and the one that is kept for all");
        known("for another date", server, 1, 59, DECLINED);
        MeetingServer one = Scenes.wide();
        one.deliver(one.answer(1, 0, 0, ACCEPTED));
        known("for the date alone", one, 1, 0, ACCEPTED);
        one.deliver(one.answer(3, 0, NONE, DECLINED));
        known("for all alone", one, 3, 0, DECLINED);
    }

    private void noneCounts() {
        edges.of(CHAPTER, "If none counts, it is NEEDED.");
        MeetingServer server = Scenes.wide();
        known("no reply", server, 1, 3, NEEDED);
        edges.due("as the person knows it", server.ownAnswer(1, 0, 3), NEEDED);
        server.deliver(server.answer(1, 0, 59, ACCEPTED));
        known("a reply for another date", server, 1, 3, NEEDED);
        server.deliver(server.answer(3, 0, 3, ACCEPTED));
        known("a reply of another person", server, 1, 3, NEEDED);
        server.deliver(server.answer(1, 7, 3, ACCEPTED));
        known("a reply for another meeting", server, 1, 3, NEEDED);
        server.answer(1, 0, 3, ACCEPTED);
        known("one that has not come", server, 1, 3, NEEDED);
        server.time(0, 3, 10, 2);
        server.deliver(11);
        known("one below the stand of all", server, 1, 3, NEEDED);
        edges.due("by the copy it counts", server.ownAnswer(1, 0, 3), ACCEPTED);
    }

    private void whoKnowsWhat() {
        edges.of(CHAPTER, "The organiser knows by the replies that have come and the version of now; each other person"
                + " knows their own answer by their own replies, which are all at hand at once, and their own copy.");
        MeetingServer server = Scenes.wide();
        server.answer(1, 0, NONE, ACCEPTED);
        known("ahead of its delivery", server, 1, 3, NEEDED);
        edges.due("of one's own at once", server.ownAnswer(1, 0, 3), ACCEPTED);
        server.deliver(8);
        known("then", server, 1, 3, ACCEPTED);
        server.move(0, 3, 90);
        known("by the version of now", server, 1, 3, NEEDED);
        edges.due("by the own copy", server.ownAnswer(1, 0, 3), ACCEPTED);
        bring(server);
        edges.due("by the new copy", server.ownAnswer(1, 0, 3), NEEDED);
        server.answer(1, 0, NONE, TENTATIVE);
        server.answer(1, 0, NONE, DECLINED);
        server.deliver(server.messages() - 2);
        known("the one that has come", server, 1, 3, TENTATIVE);
        edges.due("the last one", server.ownAnswer(1, 0, 3), DECLINED);
    }

    // ---- who is asked

    /** Person 1 is invited and delegates to 2, 2 to 3 and 3 to 4, by 1, 3 and 5; they have copies, no reply has come. */
    private static MeetingServer chain() {
        MeetingServer server = Scenes.repeatedHeld();
        for (int person = 1; person < 4; person++) {
            server.delegate(person, 0, person + 1);
            server.deliver(server.messages() - 1);
        }
        return server;
    }

    private void askedByDelegation() {
        edges.of(CHAPTER, "Asked are those who are invited, and each who is not left out and to whom one who is asked"
                + " has delegated");
        MeetingServer server = chain();
        asked("no reply has come", server, "1");
        known("one who is asked only because another has delegated, ahead of it", server, 2, 4, NONE);
        server.deliver(5);
        server.deliver(3);
        asked("delegations of those who are not asked", server, "1");
        server.deliver(1);
        asked("a chain of all others", server, "1234");
        known("in the chain", server, 3, 4, DELEGATED);
        known("at its end", server, 4, 4, NEEDED);
        server.invite(0, 1, false);
        asked("the first one is left out", server, "");
        server.invite(0, 3, true);
        asked("one in the chain is invited", server, "34");
        server.invite(0, 1, true);
        asked("all again", server, "1234");
        MeetingServer none = Scenes.several(1);
        asked("nobody at first", none, "");
        none.invite(0, 0, true);
        none.invite(0, 4, true);
        asked("the first and the last person", none, "04");
    }

    private void delegationsInARing() {
        edges.of(CHAPTER, "to whom one who is asked has delegated");
        MeetingServer server = chain();
        server.delegate(4, 0, 1);
        for (int message = 1; message < server.messages(); message++) {
            server.deliver(message);
        }
        asked("a ring with one who is invited", server, "1234");
        server.invite(0, 1, false);
        asked("a ring without one", server, "");
        MeetingServer two = Scenes.held();
        two.delegate(1, 0, 2);
        two.delegate(2, 0, 1);
        two.deliver(2);
        two.deliver(4);
        asked("two who are invited to one another", two, "12");
        MeetingServer falling = Scenes.several(1);
        falling.invite(0, 4, true);
        falling.send(0);
        falling.deliver(0);
        int[] people = {4, 3, 1, 0};
        for (int place = 0; place < 3; place++) {
            falling.delegate(people[place], 0, people[place + 1]);
            falling.deliver(falling.messages() - 1);
            falling.deliver(falling.messages() - 2);
        }
        asked("a chain to lower numbers", falling, "0134");
        known("its first one", falling, 4, 3, DELEGATED);
        known("its last one", falling, 0, 3, NEEDED);
        MeetingServer rising = Scenes.several(1);
        rising.invite(0, 0, true);
        rising.send(0);
        rising.deliver(0);
        rising.deliver(rising.delegate(0, 0, 4));
        asked("from the first person to the last", rising, "04");
        known("who is asked", rising, 4, 3, NEEDED);
    }

    private void delegationThatIsKept() {
        edges.of(CHAPTER, "whose reply for all that the organiser keeps is DELEGATED, to this person");
        MeetingServer server = chain();
        for (int message = 1; message < 7; message++) {
            server.deliver(message);
        }
        server.deliver(server.answer(1, 0, 4, ACCEPTED));
        asked("an answer for a date ends none", server, "1234");
        known("though it is the answer", server, 1, 4, ACCEPTED);
        server.time(0, 2, 9, 1);
        asked("one below the stands of all days is kept, too", server, "1234");
        known("though it does not count", server, 1, 4, NEEDED);
        server.delegate(1, 0, 4);
        asked("another delegation that has not come", server, "1234");
        server.deliver(8);
        asked("to another person, by a greater stamp", server, "14");
        server.deliver(1);
        asked("the older one again", server, "14");
        server.answer(1, 0, NONE, DECLINED);
        asked("an answer for all that has not come", server, "14");
        server.deliver(10);
        asked("an answer for all ends it", server, "1");
    }

    private void leftOutDelegates() {
        edges.of(CHAPTER, "each who is not left out and to whom one who is asked has delegated");
        MeetingServer server = chain();
        for (int message = 1; message < 7; message++) {
            server.deliver(message);
        }
        server.invite(0, 3, false);
        asked("one in the chain is left out", server, "12");
        known("of one who is asked no more", server, 4, 4, NONE);
        known("one who has delegated to one left out", server, 2, 4, DELEGATED);
        server.invite(0, 3, true);
        asked("invited then", server, "1234");
        server.invite(0, 4, false);
        asked("the last one is left out", server, "123");
    }

    private void repliesOfOthersAreKept() {
        edges.of(CHAPTER, "The replies of others are kept, too: they matter as soon as these are asked.");
        MeetingServer server = Scenes.held();
        server.delegate(1, 0, 4);
        server.deliver(3);
        server.answer(4, 0, NONE, TENTATIVE);
        server.answer(4, 0, NONE, ACCEPTED);
        edges.due("kept", server.deliver(5), true);
        edges.due("an older one is not", server.deliver(4), false);
        known("not asked", server, 4, 3, NONE);
        server.deliver(2);
        known("asked", server, 4, 3, ACCEPTED);
        MeetingServer left = Scenes.wide();
        left.invite(0, 1, false);
        left.deliver(left.answer(1, 0, NONE, ACCEPTED));
        known("left out", left, 1, 3, NONE);
        left.invite(0, 1, true);
        known("invited again", left, 1, 3, ACCEPTED);
    }

    private void organiserIsNeverAsked() {
        edges.of(CHAPTER, "The organiser is never asked.");
        MeetingServer server = Scenes.wide();
        asked("by invitations", server, "0134");
        known("the answer", server, 2, 3, NONE);
        edges.due("no request to the organiser", server.send(0), 4);
        edges.badArgument("not by invite()", Scenes::wide, x -> x.invite(0, 2, true));
        edges.badArgument("not by delegate()", Scenes::wide, x -> x.delegate(1, 0, 2));
    }

    // ---- proposals

    /** wide(), and person 1 has proposed for the day 3, by 8, and for the day 59, by 9; neither has come. */
    private static MeetingServer proposed() {
        MeetingServer server = Scenes.wide();
        server.propose(1, 0, 3, 90);
        server.propose(1, 0, 59, 95);
        return server;
    }

    private static MeetingServer come() {
        MeetingServer server = proposed();
        server.deliver(8);
        server.deliver(9);
        return server;
    }

    private void open(String what, MeetingServer server, String want) {
        edges.due(what, Look.proposals(server, 0), want);
        edges.due(what + ": how many", server.proposals(0), want.isEmpty() ? 0 : want.split(" ").length);
    }

    private void openFromWhenItHasCome() {
        edges.of(CHAPTER, "A proposal is open from when it has come");
        MeetingServer server = proposed();
        open("none has come", server, "");
        server.deliver(9);
        open("one", server, "9");
        server.deliver(8);
        open("both", server, "8 9");
        server.deliver(8);
        open("a second time", server, "8 9");
    }

    private void openUntil() {
        edges.of(CHAPTER, "until it is refused or taken");
        MeetingServer refused = come();
        refused.refuse(8);
        open("refused", refused, "9");
        refused.deliver(8);
        open("refused, and come again", refused, "9");
        MeetingServer taken = come();
        taken.take(8);
        open("taken", taken, "9");
        taken.deliver(8);
        open("taken, and come again", taken, "9");
    }

    private void openAsLongAs() {
        edges.of(CHAPTER, "as long as the meeting is not cancelled, its day is a date, and the stand of the day is not"
                + " greater than the sequence of the proposal");
        MeetingServer cancelled = come();
        cancelled.cancel(0);
        open("cancelled", cancelled, "");
        MeetingServer other = come();
        other.cancel(7);
        open("another meeting cancelled", other, "8 9");
        MeetingServer dropped = come();
        dropped.drop(0, 3);
        open("no date", dropped, "9");
        dropped.add(0, 3);
        open("a date again, with a greater stand", dropped, "9");
        MeetingServer moved = come();
        moved.move(0, 3, 82);
        open("a stand that is 1 more than the sequence", moved, "9");
        bring(moved);
        moved.deliver(moved.propose(1, 0, 3, 90));
        open("the stand as the sequence", moved, "9 14");
        moved.invite(0, 4, false);
        open("a change without a stand", moved, "9 14");
        moved.time(0, 3, 10, 2);
        open("all stands are greater", moved, "");
        MeetingServer late = proposed();
        late.repeat(0, 1, 127, 1);
        late.deliver(8);
        open("it comes when it is too late", late, "");
        MeetingServer left = come();
        left.invite(0, 1, false);
        open("of one who is left out", left, "8 9");
    }

    // ---- promises 33 to 36

    private void cancelledOrNot() {
        edges.of("Exceptions", "---- meetings, as the organiser knows them, cancelled or not.");
        MeetingServer server = Scenes.wide();
        server.deliver(server.answer(1, 0, NONE, TENTATIVE));
        server.cancel(0);
        asked("asked", server, "0134");
        known("the answer", server, 1, 59, TENTATIVE);
        edges.due("agrees", server.agrees(0), false);
        edges.due("proposals", server.proposals(0), 0);
        server.deliver(server.answer(1, 0, 59, DECLINED));
        known("an answer that has come since", server, 1, 59, DECLINED);
        edges.due("no date of it", Check.thrownBy(() -> server.answerOf(0, 1, 4)), "IllegalStateException");
    }

    private void isAsked() {
        edges.of(33, "Tells whether a person is asked.");
        MeetingServer server = Scenes.wide();
        edges.due("the first person", server.isAsked(0, 0), true);
        edges.due("the last person", server.isAsked(7, 4), true);
        edges.due("of another meeting", server.isAsked(1, 4), false);
        edges.of(33, "Returns whether the person is; false for the organiser.");
        edges.due("the organiser", server.isAsked(0, 2), false);
        server.invite(0, 4, false);
        edges.due("left out", server.isAsked(0, 4), false);
        edges.due("a copy does not matter", Scenes.invited().isAsked(0, 1), true);
    }

    private void answerOf() {
        edges.of(34, "Returns NEEDED to DELEGATED; NONE if the person is not asked.");
        returnsEach((server, person) -> server.answerOf(0, person, 3));
        edges.of(34, "Returns a person's answer for a date, as the organiser knows it.");
        knownOfDates((server, day) -> server.answerOf(0, 1, day));
    }

    private void answerByLog() {
        edges.of(35, "Returns NEEDED to DELEGATED; NONE if the person is not asked.");
        returnsEach((server, person) -> server.answerByLog(0, person, 3));
        edges.of(35, "Returns the same, found from all replies that were delivered, in no order.");
        knownOfDates((server, day) -> server.answerByLog(0, 1, day));
        MeetingServer server = chain();
        for (int message = 5; message > 0; message -= 2) {
            server.deliver(message);
        }
        edges.due("asked by delegations that came from the last to the first", server.answerByLog(0, 4, 4), NEEDED);
        MeetingServer undelivered = chain();
        undelivered.deliver(3);
        edges.due("asked by one that has not come", undelivered.answerByLog(0, 2, 4), NONE);
        for (int person = 0; person < 5; person++) {
            for (int other = 0; other < 5; other++) {
                if (person != other && person != 2 && other != 2) {
                    edges.due(person + " to " + other, delegatedByLog(person, other), NEEDED);
                }
            }
        }
    }

    /** The log is asked ahead of all other questions, so that none of them can have told it who is asked. */
    private static int delegatedByLog(int person, int other) {
        MeetingServer server = Scenes.several(1);
        server.invite(0, person, true);
        server.send(0);
        server.deliver(0);
        server.deliver(server.delegate(person, 0, other));
        return server.answerByLog(0, other, 3);
    }

    private interface Question {
        int of(MeetingServer server, int number);
    }

    private void returnsEach(Question question) {
        MeetingServer server = Scenes.wide();
        edges.due("NEEDED", question.of(server, 1), NEEDED);
        edges.due("the organiser", question.of(server, 2), NONE);
        for (int answer = ACCEPTED; answer <= DECLINED; answer++) {
            server.deliver(server.answer(1, 0, 3, answer));
            edges.due("answer " + answer, question.of(server, 1), answer);
        }
        server.deliver(server.delegate(1, 0, 3));
        edges.due("DELEGATED", question.of(server, 1), DELEGATED);
        server.invite(0, 1, false);
        edges.due("left out", question.of(server, 1), NONE);
        edges.due("not invited", question.of(Scenes.several(1), 4), NONE);
    }

    private void knownOfDates(Question question) {
        MeetingServer server = Scenes.wide();
        server.deliver(server.answer(1, 0, 0, ACCEPTED));
        server.deliver(server.answer(1, 0, 59, DECLINED));
        edges.due("the first day", question.of(server, 0), ACCEPTED);
        edges.due("the last day", question.of(server, 59), DECLINED);
        edges.due("another day", question.of(server, 3), NEEDED);
        server.answer(1, 0, 0, TENTATIVE);
        edges.due("not come", question.of(server, 0), ACCEPTED);
        server.add(0, 20);
        edges.due("a date that only the organiser has", question.of(server, 20), NEEDED);
    }

    private void agrees() {
        edges.of(36, "Tells whether all who are asked and the organiser agree.");
        edges.due("nobody is asked", Scenes.several(1).agrees(0), true);
        edges.due("all have the version of now", Scenes.wide().agrees(0), true);
        edges.of(36, "Returns true if it is not cancelled");
        MeetingServer cancelled = Scenes.several(1);
        cancelled.cancel(0);
        edges.due("cancelled, and nobody is asked", cancelled.agrees(0), false);
        edges.due("another meeting cancelled", Scenes.wideCancelled().agrees(7), true);
        edges.of(36, "each person who is asked has the version of now as a copy that is there");
        MeetingServer server = Scenes.wide();
        server.invite(0, 4, false);
        edges.due("copies of the version before", server.agrees(0), false);
        server.send(0);
        for (int message = 8; message < 11; message++) {
            edges.due("ahead of message " + message, server.agrees(0), false);
            server.deliver(message);
        }
        edges.due("all but one who is left out", server.agrees(0), true);
        MeetingServer delegated = Scenes.held();
        delegated.delegate(1, 0, 4);
        delegated.deliver(2);
        edges.due("the delegate has no copy", delegated.agrees(0), false);
        delegated.deliver(3);
        edges.due("the delegate has one", delegated.agrees(0), true);
        edges.due("sent, but not come", Scenes.sent().agrees(0), false);
    }

    private void agreesOnEachDate() {
        edges.of(36, "and, for each date, the same own answer as the organiser knows");
        for (int day : new int[] {0, 3, 59}) {
            MeetingServer server = Scenes.wide();
            server.answer(4, 0, day, ACCEPTED);
            edges.due("not on the day " + day, server.agrees(0), false);
            server.deliver(8);
            edges.due("on the day " + day, server.agrees(0), true);
        }
        MeetingServer all = Scenes.wide();
        all.answer(0, 0, NONE, ACCEPTED);
        edges.due("the first person does not", all.agrees(0), false);
        edges.due("on another meeting", all.agrees(7), true);
        all.answer(0, 0, NONE, DECLINED);
        all.deliver(8);
        edges.due("not the last one that was made", all.agrees(0), false);
        all.deliver(9);
        edges.due("the last one", all.agrees(0), true);
        all.answer(0, 0, NONE, DECLINED);
        edges.due("the same answer again, not come", all.agrees(0), true);
        all.move(0, 3, 90);
        bring(all);
        edges.due("others have not the version", all.agrees(0), false);
        edges.due("without a date", agreesWithoutDates(), true);
    }

    private static boolean agreesWithoutDates() {
        MeetingServer server = Scenes.held();
        server.answer(1, 0, NONE, ACCEPTED);
        server.drop(0, 3);
        server.send(0);
        server.deliver(3);
        server.deliver(4);
        return server.agrees(0);
    }

    // ---- promises 37 and 38

    private void proposals() {
        edges.of(37, "Returns how many proposals for a meeting are open.");
        edges.due("none", Scenes.several(1).proposals(0), 0);
        MeetingServer server = Scenes.wide();
        for (int number = 8; number < 150; number++) {
            server.propose(1, 0, 3, number);
            server.deliver(number);
        }
        edges.due("as many as there can be", server.proposals(0), 142);
        edges.of(37, "Returns how many.");
        edges.due("of another meeting", server.proposals(7), 0);
        server.drop(0, 3);
        edges.due("none any more", server.proposals(0), 0);
    }

    private void proposalAt() {
        edges.of(38, "Returns an open proposal for a meeting.");
        MeetingServer server = Scenes.wide();
        server.propose(1, 0, 3, 90);
        server.propose(1, 7, 3, 95);
        server.propose(4, 0, 59, 95);
        for (int message = 10; message >= 8; message--) {
            server.deliver(message);
        }
        edges.due("the only one", server.proposalAt(7, 0), 9);
        edges.of(38, "Returns the message.");
        edges.due("the first place", server.proposalAt(0, 0), 8);
        edges.due("the last place", server.proposalAt(0, 1), 10);
        edges.of(38, "`place`: 0 for the one with the lowest number");
        server.refuse(8);
        edges.due("the first one refused", server.proposalAt(0, 0), 10);
        edges.due("no place 1 any more", Check.thrownBy(() -> server.proposalAt(0, 1)), "IndexOutOfBoundsException");
        edges.noPlace("place 0 of none", Scenes::wide, x -> x.proposalAt(0, 0));
        edges.noPlace("place 0 of a cancelled one", EdgesOfAnswers::comeCancelled, x -> x.proposalAt(0, 0));
        edges.noPlace("place 2 of two", EdgesOfAnswers::come, x -> x.proposalAt(0, 2));
        edges.noPlace("place -1", EdgesOfAnswers::come, x -> x.proposalAt(0, -1));
    }

    private static MeetingServer comeCancelled() {
        MeetingServer server = come();
        server.cancel(0);
        return server;
    }
}
