/** The sentences of 'Messages', and of the promises 17 to 25. */
final class EdgesOfMessages {
    private static final String CHAPTER = "Messages";
    private static final int NONE = MeetingServer.NONE;
    private static final int NEEDED = MeetingServer.NEEDED;
    private static final int ACCEPTED = MeetingServer.ACCEPTED;
    private static final int TENTATIVE = MeetingServer.TENTATIVE;
    private static final int DECLINED = MeetingServer.DECLINED;
    private static final int DELEGATED = MeetingServer.DELEGATED;
    private static final int REQUEST = MeetingServer.REQUEST;
    private static final int REPLY = MeetingServer.REPLY;
    private static final int PROPOSAL = MeetingServer.PROPOSAL;

    private final Edges edges;

    EdgesOfMessages(Edges edges) {
        this.edges = edges;
    }

    void run() {
        atMost150();
        comeOnlyWhenDelivered();
        inAnyOrder();
        moreThanOnce();
        versionOfTheSender();
        copyOfALowerSequence();
        copyThatIsThere();
        replyForOneOrAll();
        sequenceAndStamp();
        keptByTheOrganiser();
        keptApart();
        keptApartByPeopleAndDays();
        proposal();
        answer();
        delegate();
        propose();
        deliver();
        deliverToldBefore();
        countAndKinds();
        lineLengths();
        lineSigns();
    }

    // ---- the chapter

    private void atMost150() {
        edges.of(CHAPTER, "Messages are numbered from 0, at most 150.");
        MeetingServer server = Scenes.several(1);
        server.invite(0, 1, true);
        edges.due("none", server.messages(), 0);
        server.send(0);
        edges.due("the first one", server.receiver(0), 1);
        server.deliver(0);
        for (int message = 1; message < 150; message++) {
            edges.due("number " + message, server.answer(1, 0, NONE, TENTATIVE), message);
        }
        edges.due("how many", server.messages(), 150);
        edges.due("the last one is a message", server.deliver(149), true);
        edges.due("a further answer", Check.thrownBy(() -> server.answer(1, 0, 3, ACCEPTED)), "IllegalStateException");
        edges.due("a further proposal", Check.thrownBy(() -> server.propose(1, 0, 3, 5)), "IllegalStateException");
        edges.due("a further delegation", Check.thrownBy(() -> server.delegate(1, 0, 3)), "IllegalStateException");
        edges.due("a further request", Check.thrownBy(() -> server.send(0)), "IllegalStateException");
        edges.due("no more then", server.messages(), 150);
        edges.due("all else goes on", server.move(0, 3, 90), 2);
        edges.due("the number 150", Check.thrownBy(() -> server.deliver(150)), "IndexOutOfBoundsException");
    }

    private void comeOnlyWhenDelivered() {
        edges.of(CHAPTER, "They come to their receivers only when they are delivered");
        MeetingServer server = Scenes.sent();
        edges.due("a request", server.sequence(1, 0), NONE);
        server.deliver(0);
        edges.due("it comes", server.sequence(1, 0), 2);
        edges.due("not to another one", server.sequence(2, 0), NONE);
        server.answer(1, 0, NONE, ACCEPTED);
        server.propose(1, 0, 3, 90);
        edges.due("a reply", server.answerOf(0, 1, 3) + server.answerByLog(0, 1, 3), 2 * NEEDED);
        edges.due("a proposal", server.proposals(0), 0);
        server.deliver(2);
        server.deliver(3);
        edges.due("the reply comes", server.answerOf(0, 1, 3) + server.answerByLog(0, 1, 3), 2 * ACCEPTED);
        edges.due("the proposal comes", server.proposals(0), 1);
    }

    private void inAnyOrder() {
        edges.of(CHAPTER, "which can be done in any order");
        int[][] orders = {{0, 1, 2}, {0, 2, 1}, {1, 0, 2}, {1, 2, 0}, {2, 0, 1}, {2, 1, 0}};
        for (int[] order : orders) {
            MeetingServer requests = Scenes.several(1);
            requests.invite(0, 1, true);
            for (int hour = 10; hour < 13; hour++) {
                requests.move(0, 3, hour);
                requests.send(0);
            }
            MeetingServer replies = Scenes.wide();
            replies.answer(1, 0, 3, DECLINED);
            replies.answer(1, 0, NONE, ACCEPTED);
            replies.answer(1, 0, 3, TENTATIVE);
            int last = -1;
            for (int message : order) {
                edges.due("a request behind " + last, requests.deliver(message), message > last);
                last = Math.max(last, message);
                replies.deliver(8 + message);
            }
            edges.due("the newest copy", requests.begin(1, 0, 3), 12);
            edges.due("the newest reply of the date", replies.answerOf(0, 1, 3), TENTATIVE);
            edges.due("the reply for all", replies.answerOf(0, 1, 59), ACCEPTED);
        }
    }

    private void moreThanOnce() {
        edges.of(CHAPTER, "and more than once");
        MeetingServer server = Scenes.wide();
        server.answer(1, 0, NONE, ACCEPTED);
        server.propose(1, 0, 3, 90);
        for (int message = 8; message < 10; message++) {
            edges.due("the first time", server.deliver(message), true);
            int mark = server.mark(2);
            edges.due("the second time", server.deliver(message), false);
            edges.due("the third time", server.deliver(message), false);
            edges.due("no mark by it", server.mark(2), mark);
        }
        int mark = server.mark(1);
        edges.due("a request again", server.deliver(1), false);
        edges.due("no mark by that", server.mark(1), mark);
        edges.due("one proposal", server.proposals(0), 1);
        edges.due("no messages by it", server.messages(), 10);
        server.refuse(9);
        server.deliver(9);
        edges.due("a refused one again", server.proposals(0), 0);
    }

    private void versionOfTheSender() {
        edges.of(CHAPTER, "A request goes to a person with the version that the sender has.");
        MeetingServer server = Scenes.held();
        server.move(0, 3, 90);
        server.delegate(1, 0, 4);
        server.deliver(3);
        edges.due("of one who has not heard of the change", server.begin(4, 0, 3), 82);
        server.move(0, 3, 95);
        server.send(0);
        server.move(0, 3, 99);
        server.deliver(4);
        edges.due("of the organiser, when it was sent", server.begin(1, 0, 3), 95);
        server.delegate(1, 0, 3);
        server.deliver(7);
        edges.due("of one who has heard of it", server.begin(3, 0, 3), 95);
    }

    private void copyOfALowerSequence() {
        edges.of(CHAPTER, "If the receiver has no copy of the meeting, or one with a lower sequence, its version becomes"
                + " the receiver's copy.");
        MeetingServer server = Scenes.held();
        server.send(0);
        edges.due("the same sequence", server.deliver(2), false);
        server.move(0, 3, 90);
        server.send(0);
        edges.due("a sequence that is 1 more", server.deliver(4), true);
        edges.due("a sequence that is 1 less", server.deliver(2), false);
        edges.due("the copy stays", server.begin(1, 0, 3), 90);
        server.delegate(1, 0, 4);
        edges.due("no copy", server.deliver(7), true);
        server.delegate(2, 0, 4);
        edges.due("a lower one from another sender", server.deliver(9), false);
        server.cancel(0);
        server.send(0);
        edges.due("a cancelled one", server.deliver(10), true);
        edges.due("a lower one to a copy that is gone", server.deliver(4), false);
        edges.due("gone", server.isThere(1, 0), false);
        server.make(0, 0, 3, 10, 2);
        server.invite(1, 1, true);
        server.send(1);
        edges.due("of another meeting", server.deliver(12), true);
    }

    private void copyThatIsThere() {
        edges.of(CHAPTER, "A copy is there unless it is cancelled, or its person was left out in it; otherwise it is"
                + " gone.");
        MeetingServer left = Scenes.wideLeftOut();
        edges.due("left out", left.isThere(1, 0), false);
        left.deliver(10);
        edges.due("another one left out", left.isThere(3, 0), true);
        left.invite(0, 1, true);
        left.send(0);
        left.deliver(13);
        edges.due("invited again", left.isThere(1, 0), true);
        MeetingServer cancelled = Scenes.wideCancelledCopy();
        edges.due("cancelled", cancelled.isThere(1, 0), false);
        edges.due("cancelled, but not in the copy", cancelled.isThere(3, 0), true);
        MeetingServer unasked = Scenes.wide();
        unasked.invite(0, 4, false);
        unasked.send(0);
        unasked.deliver(9);
        unasked.delegate(1, 0, 4);
        edges.due("a delegate gets a copy in which this one is left out", unasked.deliver(13), true);
        edges.due("it is gone", unasked.isThere(4, 0), false);
        edges.due("of one who is not invited", delegateHasIt(), true);
    }

    private static boolean delegateHasIt() {
        MeetingServer server = Scenes.held();
        server.delegate(1, 0, 4);
        server.deliver(3);
        return server.isThere(4, 0);
    }

    private void replyForOneOrAll() {
        edges.of(CHAPTER, "A reply goes to the organiser, with an answer: ACCEPTED, TENTATIVE, DECLINED or DELEGATED;"
                + " for one date, or for all");
        for (int answer = ACCEPTED; answer <= DECLINED; answer++) {
            MeetingServer server = Scenes.wide();
            server.deliver(server.answer(1, 0, 59, answer));
            edges.due("to the organiser", server.receiver(8), 2);
            edges.due("for one date", server.answerOf(0, 1, 59), answer);
            edges.due("for no other", server.answerOf(0, 1, 0) + server.answerOf(0, 1, 3), 2 * NEEDED);
            server.deliver(server.answer(1, 0, NONE, answer));
            edges.due("for all", server.answerOf(0, 1, 0) + server.answerOf(0, 1, 3), 2 * answer);
            server.add(0, 30);
            edges.due("for a date added since", server.answerOf(0, 1, 30), NEEDED);
        }
        MeetingServer server = Scenes.wide();
        server.delegate(1, 0, 3);
        server.deliver(8);
        edges.due("delegated for all", server.answerOf(0, 1, 0) + server.answerOf(0, 1, 59), 2 * DELEGATED);
    }

    private void sequenceAndStamp() {
        edges.of(CHAPTER, "with the sequence of the copy of its sender");
        MeetingServer server = Scenes.wide();
        server.move(0, 3, 90);
        server.answer(1, 0, NONE, ACCEPTED);
        edges.due("not that of now", Look.line(server, 8), "reply bc 0 6 accepted");
        server.send(0);
        server.deliver(10);
        server.answer(1, 0, NONE, ACCEPTED);
        edges.due("that of the newer copy", Look.line(server, 13), "reply bc 0 7 accepted");
        edges.of(CHAPTER, "and a stamp: how many replies were made ahead of it, on the whole server");
        for (boolean isRising : new boolean[] {true, false}) {
            MeetingServer two = Scenes.wide();
            two.answer(1, 0, 3, DECLINED);
            two.answer(3, 7, 3, DECLINED);
            two.propose(1, 0, 3, 90);
            two.answer(1, 7, 3, TENTATIVE);
            two.answer(1, 0, NONE, ACCEPTED);
            for (int message = 8; message < 13; message++) {
                two.deliver(isRising ? message : 20 - message);
            }
            edges.due("the one that was made later", two.answerOf(0, 1, 3), ACCEPTED);
            edges.due("by the log", two.answerByLog(0, 1, 3), ACCEPTED);
            edges.due("as the person knows it", two.ownAnswer(1, 0, 3), ACCEPTED);
            edges.due("of the other meeting", two.answerOf(7, 1, 3), TENTATIVE);
        }
    }

    private void keptByTheOrganiser() {
        edges.of(CHAPTER, "the organiser keeps the one with the greatest sequence, of several the one with the greatest"
                + " stamp");
        MeetingServer server = Scenes.wide();
        server.answer(1, 0, NONE, DECLINED);
        server.answer(1, 0, NONE, TENTATIVE);
        server.invite(0, 4, false);
        server.send(0);
        server.deliver(11);
        server.answer(1, 0, NONE, ACCEPTED);
        edges.due("the first one", server.deliver(9), true);
        edges.due("a lower stamp", server.deliver(8), false);
        edges.due("the same one", server.deliver(9), false);
        edges.due("a greater sequence", server.deliver(14), true);
        edges.due("a lower sequence", server.deliver(9), false);
        edges.due("what is kept", server.answerOf(0, 1, 3), ACCEPTED);
        server.cancel(0);
        server.answer(1, 0, NONE, DECLINED);
        edges.due("of a cancelled meeting", server.deliver(15), true);
        edges.due("what is kept then", server.answerOf(0, 1, 3), DECLINED);
    }

    private void keptApart() {
        edges.of(CHAPTER, "Of replies with the same person, and for the same date or both for all");
        MeetingServer server = Scenes.wide();
        server.answer(1, 0, 0, ACCEPTED);
        server.answer(1, 0, 59, TENTATIVE);
        server.answer(3, 0, 0, DECLINED);
        server.answer(1, 7, 0, DECLINED);
        server.answer(1, 0, NONE, DECLINED);
        for (int message = 12; message >= 8; message--) {
            edges.due("kept: " + message, server.deliver(message), true);
        }
        edges.due("the greater stamp of the date and of all", server.answerOf(0, 1, 0), DECLINED);
        server.answer(1, 0, 0, TENTATIVE);
        edges.due("the date's is newer", server.deliver(13) ? server.answerOf(0, 1, 0) : NONE, TENTATIVE);
        edges.due("the other date's is not", server.answerOf(0, 1, 59), DECLINED);
        edges.due("the other person's", server.answerOf(0, 3, 0), DECLINED);
        edges.due("the other meeting's", server.answerOf(7, 1, 0), DECLINED);
    }

    /** One reply for one date, at the ends of the people and of the days, tells of no other person and day. */
    private void keptApartByPeopleAndDays() {
        edges.of(CHAPTER, "Of replies with the same person, and for the same date or both for all");
        for (int who : new int[] {0, 1, 3, 4}) {
            for (int date : new int[] {0, 1, 58, 59}) {
                MeetingServer server = Scenes.wide();
                server.add(0, 1);
                server.add(0, 58);
                server.send(0);
                for (int message = 8; message < 12; message++) {
                    server.deliver(message);
                    server.deliver(server.answer(server.receiver(message), 0, NONE, TENTATIVE));
                }
                server.deliver(server.answer(who, 0, date, ACCEPTED));
                for (int person : new int[] {0, 1, 3, 4}) {
                    for (int day : new int[] {0, 1, 3, 58, 59}) {
                        int want = person == who && day == date ? ACCEPTED : TENTATIVE;
                        String what = "of " + who + " for " + date + ": of " + person + " for " + day;
                        edges.due(what, server.answerOf(0, person, day), want);
                        edges.due(what + ", as this person knows it", server.ownAnswer(person, 0, day), want);
                    }
                }
            }
        }
    }

    private void proposal() {
        edges.of(CHAPTER, "A proposal goes to the organiser: a local hour to which a date could be moved, with the"
                + " sequence of the copy of its sender.");
        MeetingServer server = Scenes.wide();
        server.move(0, 59, 90);
        server.propose(4, 0, 3, 95);
        edges.due("to the organiser", server.receiver(8), 2);
        edges.due("the sequence of the copy", Look.line(server, 8), "proposal ec 0 6");
        server.setOffset(0, 5);
        server.deliver(8);
        server.take(8);
        edges.due("a local hour", server.begin(2, 0, 3), 90);
    }

    // ---- promises 17 to 19

    private void answer() {
        edges.of(17, "Returns the number of the message.");
        MeetingServer server = Scenes.wide();
        edges.due("the next number", server.answer(1, 0, NONE, ACCEPTED), 8);
        edges.due("and the next", server.answer(4, 7, 59, DECLINED), 9);
        edges.due("the last number", Scenes.wideWithMessages(149).answer(1, 0, 0, ACCEPTED), 149);
        edges.of(17, "Makes a reply.");
        edges.due("kind", server.kindOf(8) * 10 + server.kindOf(9), REPLY * 11);
        edges.due("known to its person at once", server.ownAnswer(1, 0, 0), ACCEPTED);
        edges.of(17, "`answer`: ACCEPTED, TENTATIVE or DECLINED");
        for (int answer = ACCEPTED; answer <= DECLINED; answer++) {
            server.answer(3, 0, 0, answer);
            edges.due("answer " + answer, server.ownAnswer(3, 0, 0), answer);
        }
        edges.of(17, "a date of the person's copy; or NONE for all");
        MeetingServer dates = Scenes.wide();
        dates.answer(1, 0, 0, TENTATIVE);
        dates.answer(1, 0, 59, ACCEPTED);
        edges.due("the first day", dates.ownAnswer(1, 0, 0), TENTATIVE);
        edges.due("the last day", dates.ownAnswer(1, 0, 59), ACCEPTED);
        edges.due("another day", dates.ownAnswer(1, 0, 3), NEEDED);
        dates.answer(1, 0, NONE, DECLINED);
        edges.due("all", dates.ownAnswer(1, 0, 0) + dates.ownAnswer(1, 0, 3) + dates.ownAnswer(1, 0, 59), 3 * DECLINED);
        edges.due("for all, of a copy without dates", answerWithoutDates(), 2);
    }

    private static int answerWithoutDates() {
        MeetingServer server = Scenes.held();
        server.drop(0, 3);
        server.send(0);
        server.deliver(2);
        return server.answer(1, 0, NONE, ACCEPTED) - 2;
    }

    private void delegate() {
        edges.of(18, "Makes a reply DELEGATED, for all; and behind it a request, from this person to the other one, with"
                + " the person's copy.");
        MeetingServer server = Scenes.held();
        server.delegate(1, 0, 4);
        edges.due("two messages", Look.lines(server, 2), "reply ba 0 2 delegated, request be 0 2");
        edges.due("kinds", server.kindOf(2) * 10 + server.kindOf(3), REPLY * 10 + REQUEST);
        edges.due("receivers", server.receiver(2) * 10 + server.receiver(3), 4);
        edges.due("for all", server.ownAnswer(1, 0, 3), DELEGATED);
        edges.of(18, "Returns the number of the reply.");
        edges.due("the next number", server.delegate(1, 0, 3), 4);
        edges.due("of the last two", Scenes.wideWithMessages(148).delegate(1, 0, 3), 148);
        edges.of(18, "`other`: another person, not the organiser");
        edges.due("one who is invited", server.delegate(1, 0, 2), 6);
        edges.due("back", server.delegate(2, 0, 1), 8);
        MeetingServer wide = Scenes.wide();
        edges.due("the first person", wide.receiver(wide.delegate(4, 0, 0) + 1), 0);
        edges.due("the last person", wide.receiver(wide.delegate(0, 0, 4) + 1), 4);
    }

    private void propose() {
        edges.of(19, "Makes a proposal.");
        MeetingServer server = Scenes.wide();
        int mark = server.mark(1);
        server.propose(1, 0, 0, 0);
        server.propose(1, 0, 59, 1439);
        edges.due("kind", server.kindOf(8) * 10 + server.kindOf(9), PROPOSAL * 11);
        edges.due("no mark", server.mark(1), mark);
        edges.due("no answer", server.ownAnswer(1, 0, 0), NEEDED);
        server.deliver(8);
        server.deliver(9);
        server.take(8);
        server.take(9);
        edges.due("the first hour", server.begin(2, 0, 0), 0);
        edges.due("the last hour", server.begin(2, 0, 59), 1439);
        edges.of(19, "Returns the number of the message.");
        edges.due("the next number", server.propose(1, 7, 3, 5), 10);
        edges.due("the last number", Scenes.wideWithMessages(149).propose(1, 0, 0, 5), 149);
        edges.of(19, "of the zone of the meeting");
        MeetingServer zone = new MeetingServer();
        zone.make(0, 2, 3, 10, 2);
        zone.setOffset(2, -12);
        zone.invite(0, 1, true);
        zone.send(0);
        zone.deliver(0);
        zone.deliver(zone.propose(1, 0, 3, 1439));
        zone.take(1);
        edges.due("by its clock", zone.begin(0, 0, 3), 1451);
    }

    // ---- promises 20 to 25

    private void deliver() {
        edges.of(20, "Returns whether it becomes a copy or is kept; of a proposal, whether it was not delivered"
                + " before.");
        MeetingServer server = Scenes.sent();
        edges.due("a request, the first time", server.deliver(0), true);
        edges.due("a request, the second time", server.deliver(0), false);
        server.answer(1, 0, NONE, ACCEPTED);
        edges.due("a reply, the first time", server.deliver(2), true);
        edges.due("a reply, the second time", server.deliver(2), false);
        server.propose(1, 0, 3, 90);
        edges.due("a proposal, the first time", server.deliver(3), true);
        edges.due("a proposal, the second time", server.deliver(3), false);
        server.move(0, 3, 95);
        edges.due("a reply below the stand, again", server.deliver(2), false);
        edges.due("a closed proposal, again", server.deliver(3), false);
        server.propose(1, 0, 3, 90);
        edges.due("a proposal that is not open", server.deliver(4), true);
        edges.due("it is not open", server.proposals(0), 0);
        server.answer(1, 0, 3, DECLINED);
        edges.due("a reply below the stand is kept, too", server.deliver(5), true);
        edges.due("it does not count", server.answerOf(0, 1, 3), NEEDED);
        server.cancel(0);
        server.propose(1, 0, 3, 90);
        edges.due("a proposal for a cancelled meeting", server.deliver(6), true);
    }

    private void deliverToldBefore() {
        edges.of(20, "Delivers a message.");
        MeetingServer server = Scenes.wide();
        server.delegate(1, 0, 3);
        edges.due("a delegate's request of the same sequence", server.deliver(9), false);
        server.answer(3, 0, 3, TENTATIVE);
        server.invite(0, 3, false);
        edges.due("a reply of one who is not asked", server.deliver(10), true);
        edges.due("the delegation", server.deliver(8), true);
        edges.due("who is left out is not asked", server.answerOf(0, 3, 3), NONE);
        edges.due("the last of 150", Scenes.wideWithMessages(150).deliver(149), true);
    }

    private void countAndKinds() {
        edges.of(21, "Returns how many messages there are, delivered ones included.");
        edges.due("none", new MeetingServer().messages(), 0);
        edges.due("delivered ones", Scenes.wide().messages(), 8);
        edges.due("ones not delivered", Scenes.sent().messages(), 2);
        edges.due("150", Scenes.wideWithMessages(150).messages(), 150);
        MeetingServer server = Scenes.wideWithMessages(149);
        server.propose(4, 7, 59, 5);
        edges.of(22, "Returns the kind of a message.");
        edges.due("the first", server.kindOf(0), REQUEST);
        edges.due("the last", server.kindOf(149), PROPOSAL);
        edges.of(22, "Returns REQUEST, REPLY or PROPOSAL.");
        edges.due("of each", "" + server.kindOf(7) + server.kindOf(8) + server.kindOf(149), "012");
        edges.of(23, "Returns the receiver of a message.");
        edges.due("the first", server.receiver(0), 0);
        edges.due("the last", server.receiver(149), 2);
        edges.of(23, "Returns the person.");
        edges.due("of each", "" + server.receiver(4) + server.receiver(5) + server.receiver(6) + server.receiver(7)
                + server.receiver(8), "01342");
        edges.of("Exceptions", "`REQUEST = 0, REPLY = 1, PROPOSAL = 2`: Kinds of messages.");
        edges.due("the numbers", "" + REQUEST + REPLY + PROPOSAL, "012");
    }

    /** A meeting of person 4 with 120 versions behind its first; person 0 has been sent those of some sequences. */
    private static MeetingServer manyVersions() {
        MeetingServer server = new MeetingServer();
        server.make(4, 0, 3, 10, 2);
        server.invite(0, 0, true);
        for (int sequence = 2; sequence <= 120; sequence++) {
            server.move(0, 3, sequence);
            if (sequence == 9 || sequence == 10 || sequence == 99 || sequence == 100) {
                server.send(0);
            }
        }
        return server;
    }

    private void lineLengths() {
        edges.of(24, "Returns the length of a message as a line");
        MeetingServer server = manyVersions();
        edges.due("one digit", server.lineLength(0), 14);
        edges.due("two digits", server.lineLength(1), 15);
        edges.due("the last of two digits", server.lineLength(2), 15);
        edges.due("three digits", server.lineLength(3), 16);
        edges.due("the line of three digits", Look.line(server, 3), "request ea 0 100");
        edges.of(24, "a blank and its answer (accepted, tentative, declined or delegated)");
        server.deliver(0);
        edges.due("accepted", server.lineLength(server.answer(0, 0, NONE, ACCEPTED)), 21);
        edges.due("tentative", server.lineLength(server.answer(0, 0, NONE, TENTATIVE)), 22);
        edges.due("declined", server.lineLength(server.answer(0, 0, 3, DECLINED)), 21);
        edges.due("delegated", server.lineLength(server.delegate(0, 0, 3)), 22);
        edges.due("a delegate's request", server.lineLength(8), 14);
        edges.of(24, "Returns how many letters, digits and blanks.");
        edges.due("a proposal", server.lineLength(server.propose(0, 0, 3, 5)), 15);
        for (int message = 0; message < server.messages(); message++) {
            int sign = message;
            edges.due("the last sign is there", Look.line(server, message).length(), server.lineLength(message));
            edges.due("none behind it", Check.thrownBy(() -> server.lineChar(sign, server.lineLength(sign))),
                    "IndexOutOfBoundsException");
        }
    }

    private void lineSigns() {
        edges.of(24, "its kind (request, reply or proposal), a blank, the letters of its sender and its receiver (a for"
                + " the person 0, and so on), a blank, the number of the meeting, a blank, the sequence");
        MeetingServer server = Scenes.wide();
        server.propose(4, 7, 59, 5);
        server.answer(0, 7, NONE, DECLINED);
        server.delegate(3, 0, 1);
        edges.due("all letters", Look.lines(server, 0), "request ca 0 6, request cb 0 6, request cd 0 6,"
                + " request ce 0 6, request ca 7 6, request cb 7 6, request cd 7 6, request ce 7 6,"
                + " proposal ec 7 6, reply ac 7 6 declined, reply dc 0 6 delegated, request db 0 6");
        edges.of(25, "Returns a sign of the line of a message.");
        edges.due("the first", server.lineChar(8, 0), 'p');
        edges.due("a blank", server.lineChar(8, 8), ' ');
        edges.due("a letter", server.lineChar(8, 9), 'e');
        edges.of(25, "Returns the sign.");
        edges.due("the last", server.lineChar(8, 14), '6');
        edges.due("the last of a reply", server.lineChar(9, 20), 'd');
        edges.due("of the first message", server.lineChar(0, 13), '6');
    }
}
