/** The sentences of 'Marks', and of the promises 42 to 44. */
final class EdgesOfMarks {
    private static final String CHAPTER = "Marks";
    private static final int NONE = MeetingServer.NONE;
    private static final int ACCEPTED = MeetingServer.ACCEPTED;
    private static final int DECLINED = MeetingServer.DECLINED;

    private final Edges edges;

    EdgesOfMarks(Edges edges) {
        this.edges = edges;
    }

    void run() {
        atFirst();
        marksOfTheOrganiser();
        marksOfOthers();
        marksThatNobodyGets();
        goneOfTheOrganiser();
        goneOfOthers();
        goneOfBothKinds();
        threeAreKept();
        moreThanThree();
        fiveToEightGone();
        onlyGoneOnesAreForgotten();
        thereAgain();
        forgottenAtOnce();
        floorOfOthers();
        mark();
        changes();
        changeAt();
    }

    private void changed(String what, MeetingServer server, int person, int mark, String want) {
        edges.due(what, Look.changes(server, person, mark), want);
        edges.due(what + ": how many", server.changes(person, mark), want.isEmpty() ? 0 : want.split(" ").length);
    }

    private void floor(String what, MeetingServer server, int person, int want) {
        edges.due(what + ": the floor", Look.canBeAsked(server, person, want), true);
        edges.due(what + ": below the floor", Check.thrownBy(() -> server.changes(person, want - 1)),
                want == 0 ? "IllegalArgumentException" : "IllegalStateException");
        edges.due(what + ": below the floor, at a place", Check.thrownBy(() -> server.changeAt(person, want - 1, 0)),
                want == 0 ? "IllegalArgumentException" : "IllegalStateException");
    }

    private void atFirst() {
        edges.of(CHAPTER, "Each person has a mark, 0 at first.");
        MeetingServer server = new MeetingServer();
        for (int person = 0; person < 5; person++) {
            edges.due("the mark of " + person, server.mark(person), 0);
            changed("no entry of " + person, server, person, 0, "");
            floor("of " + person, server, person, 0);
        }
    }

    /** A call must change the marks of the people 1 and 2 to these. */
    private void marked(String what, MeetingServer server, int ofGuest, int ofOrganiser) {
        edges.due(what, server.mark(1) + " " + server.mark(2), ofGuest + " " + ofOrganiser);
    }

    private void marksOfTheOrganiser() {
        edges.of(CHAPTER, "It becomes 1 more, and the person's entry of the meeting gets it, whenever the person, as the"
                + " organiser, makes or changes the meeting");
        MeetingServer server = Scenes.several(1);
        marked("make", server, 0, 1);
        server.time(0, 3, 10, 2);
        marked("the same time", server, 0, 2);
        server.repeat(0, 1, 127, 1);
        marked("the same rule", server, 0, 3);
        server.add(0, 5);
        marked("add", server, 0, 4);
        server.move(0, 5, 130);
        marked("move", server, 0, 5);
        server.drop(0, 5);
        marked("drop", server, 0, 6);
        server.invite(0, 1, true);
        marked("invite", server, 0, 7);
        server.invite(0, 3, false);
        marked("leave out", server, 0, 8);
        server.send(0);
        server.deliver(0);
        server.propose(1, 0, 3, 90);
        server.deliver(2);
        marked("of the request, not of the proposal", server, 1, 8);
        server.take(2);
        marked("take", server, 1, 9);
        server.cancel(0);
        marked("cancel", server, 1, 10);
        changed("one entry, with the mark of now", server, 2, 9, "0");
        changed("none above the mark of now", server, 2, 10, "");
        edges.of(CHAPTER, "or, as the organiser, comes to keep a reply");
        MeetingServer replies = Scenes.held();
        replies.answer(1, 0, NONE, ACCEPTED);
        replies.answer(1, 0, NONE, DECLINED);
        int mark = replies.mark(0);
        replies.deliver(3);
        edges.due("kept", replies.mark(0), mark + 1);
        replies.deliver(2);
        edges.due("not kept", replies.mark(0), mark + 1);
        replies.deliver(3);
        edges.due("kept already", replies.mark(0), mark + 1);
        replies.cancel(0);
        replies.answer(1, 0, 3, ACCEPTED);
        replies.deliver(4);
        edges.due("kept for a cancelled meeting", replies.mark(0), mark + 3);
    }

    private void marksOfOthers() {
        edges.of(CHAPTER, "gets a copy of it, or a newer one; makes a reply for it");
        MeetingServer server = Scenes.several(2);
        for (int meeting = 0; meeting < 2; meeting++) {
            server.invite(meeting, 1, true);
            server.send(meeting);
        }
        marked("sent", server, 0, 4);
        server.deliver(1);
        marked("a copy", server, 1, 4);
        server.deliver(0);
        marked("a copy of another", server, 2, 4);
        changed("by their marks", server, 1, 0, "1 0");
        server.deliver(1);
        marked("the same again", server, 2, 4);
        server.answer(1, 1, NONE, ACCEPTED);
        marked("a reply", server, 3, 4);
        changed("the entry gets the mark", server, 1, 0, "0 1");
        server.delegate(1, 0, 3);
        marked("one for a delegation", server, 4, 4);
        edges.due("none for the delegate", server.mark(3), 0);
        server.deliver(4);
        edges.due("one for the delegate's copy", server.mark(3), 1);
        server.move(0, 3, 90);
        server.send(0);
        marked("not heard of", server, 4, 5);
        server.deliver(5);
        marked("a newer copy", server, 5, 5);
        server.deliver(0);
        marked("an older one", server, 5, 5);
        server.cancel(0);
        server.send(0);
        server.deliver(6);
        marked("a cancelled one", server, 6, 6);
    }

    private void marksThatNobodyGets() {
        edges.of(CHAPTER, "It becomes 1 more, and the person's entry of the meeting gets it, whenever");
        MeetingServer server = Scenes.wide();
        server.propose(1, 0, 3, 90);
        server.propose(1, 0, 3, 91);
        int guest = server.mark(1);
        int organiser = server.mark(2);
        server.deliver(8);
        server.deliver(9);
        server.refuse(8);
        server.send(0);
        server.deliver(11);
        server.setOffset(0, 3);
        server.setSummer(0, 1, 2);
        edges.due("the guest", server.mark(1), guest);
        edges.due("the organiser", server.mark(2), organiser);
        edges.due("of a call that throws", Check.thrownBy(() -> server.drop(0, 4)), "IllegalStateException");
        edges.due("the organiser then", server.mark(2), organiser);
    }

    // ---- what is gone and forgotten

    private void goneOfTheOrganiser() {
        edges.of(CHAPTER, "An entry is gone if the meeting is: cancelled by the organiser");
        MeetingServer server = Scenes.forgetful();
        changed("four cancelled", server, 2, 9, "1 2 3");
        floor("four cancelled", server, 2, 9);
        MeetingServer left = Scenes.eight();
        for (int meeting = 0; meeting < 8; meeting++) {
            left.invite(meeting, 1, false);
        }
        floor("others left out", left, 2, 0);
    }

    /** Eight meetings of person 2, of which person 1 has copies; the messages 0 to 7 have come, the marks are 1 to 8. */
    private static MeetingServer guest() {
        MeetingServer server = Scenes.eight();
        for (int meeting = 0; meeting < 8; meeting++) {
            server.invite(meeting, 1, true);
            server.send(meeting);
            server.deliver(meeting);
        }
        return server;
    }

    /** Of the meeting a copy that is gone comes to person 1: cancelled, or without this person. */
    private static void lose(MeetingServer server, int meeting) {
        if (meeting % 2 == 0) {
            server.cancel(meeting);
        } else {
            server.invite(meeting, 1, false);
        }
        server.send(meeting);
        server.deliver(server.messages() - 1);
    }

    private void goneOfOthers() {
        edges.of(CHAPTER, "or a copy that is gone");
        MeetingServer server = guest();
        for (int meeting = 0; meeting < 8; meeting++) {
            server.cancel(meeting);
        }
        changed("not as long as the copies are there", server, 1, 0, "0 1 2 3 4 5 6 7");
        floor("not as long as the copies are there", server, 1, 0);
        for (int meeting = 0; meeting < 8; meeting++) {
            server.answer(1, meeting, NONE, ACCEPTED);
        }
        floor("replies for cancelled ones", server, 1, 0);
        MeetingServer left = guest();
        for (int meeting = 1; meeting < 8; meeting += 2) {
            lose(left, meeting);
        }
        changed("four left out", left, 1, 9, "3 5 7");
        floor("four left out", left, 1, 9);
        floor("the organiser's are there", left, 2, 0);
        MeetingServer cancelled = guest();
        for (int meeting = 0; meeting < 8; meeting += 2) {
            lose(cancelled, meeting);
        }
        changed("four cancelled copies", cancelled, 1, 9, "2 4 6");
        floor("four cancelled copies", cancelled, 1, 9);
    }

    private void goneOfBothKinds() {
        edges.of(CHAPTER, "An entry is gone if the meeting is: cancelled by the organiser, or a copy that is gone.");
        MeetingServer server = Scenes.several(2);
        server.make(1, 0, 3, 10, 2);
        server.make(1, 0, 3, 10, 2);
        for (int meeting = 0; meeting < 2; meeting++) {
            server.invite(meeting, 1, true);
            server.send(meeting);
            server.deliver(meeting);
        }
        lose(server, 1);
        server.cancel(2);
        lose(server, 0);
        floor("a meeting of one's own and two copies", server, 1, 0);
        changed("a meeting of one's own and two copies", server, 1, 0, "3 1 2 0");
        server.cancel(3);
        floor("two meetings of one's own and two copies", server, 1, 5);
        changed("two meetings of one's own and two copies", server, 1, 5, "2 0 3");
    }

    private void threeAreKept() {
        edges.of(CHAPTER, "If a person has more than 3 entries that are gone then");
        MeetingServer server = guest();
        for (int meeting = 0; meeting < 3; meeting++) {
            lose(server, meeting);
        }
        changed("three gone", server, 1, 0, "3 4 5 6 7 0 1 2");
        floor("three gone", server, 1, 0);
        server.answer(1, 3, NONE, ACCEPTED);
        changed("another mark with three gone", server, 1, 0, "4 5 6 7 0 1 2 3");
        MeetingServer organiser = Scenes.eight();
        for (int meeting = 7; meeting > 4; meeting--) {
            organiser.cancel(meeting);
        }
        changed("three cancelled", organiser, 2, 0, "0 1 2 3 4 7 6 5");
        floor("three cancelled", organiser, 2, 0);
    }

    private void moreThanThree() {
        edges.of(CHAPTER, "the one of these with the lowest mark is forgotten");
        MeetingServer server = guest();
        for (int meeting : new int[] {6, 1, 4, 3}) {
            lose(server, meeting);
        }
        changed("four gone", server, 1, 9, "1 4 3");
        floor("four gone", server, 1, 9);
        edges.of(CHAPTER, "and the person's floor, 0 at first, becomes this mark");
        lose(server, 0);
        changed("five gone", server, 1, 10, "4 3 0");
        floor("five gone", server, 1, 10);
        edges.due("its copy is held all the same", server.sequence(1, 6), 2);
        server.answer(1, 7, NONE, ACCEPTED);
        changed("one that is there and has a mark", server, 1, 10, "4 3 0 7");
        changed("above the floor alone", server, 1, 13, "7");
    }

    private void fiveToEightGone() {
        edges.of(CHAPTER, "becomes this mark");
        MeetingServer server = Scenes.eight();
        for (int meeting = 0; meeting < 8; meeting++) {
            server.cancel(meeting);
            if (meeting >= 3) {
                floor("gone up to " + meeting, server, 2, meeting + 6);
                changed("gone up to " + meeting, server, 2, meeting + 6,
                        (meeting - 2) + " " + (meeting - 1) + " " + meeting);
            }
        }
        edges.due("eight cancelled", server.mark(2), 16);
        changed("above the mark", server, 2, 16, "");
        changed("of others", server, 0, 0, "");
    }

    private void onlyGoneOnesAreForgotten() {
        edges.of(CHAPTER, "the one of these with the lowest mark is forgotten");
        MeetingServer server = guest();
        lose(server, 1);
        server.invite(1, 1, true);
        server.send(1);
        server.deliver(9);
        for (int meeting = 3; meeting < 6; meeting++) {
            lose(server, meeting);
        }
        floor("one that came back, and three gone", server, 1, 0);
        changed("one that came back, and three gone", server, 1, 0, "0 2 6 7 1 3 4 5");
        lose(server, 6);
        floor("four gone", server, 1, 11);
        changed("four gone", server, 1, 11, "4 5 6");
        MeetingServer first = Scenes.several(4);
        for (int meeting = 0; meeting < 4; meeting++) {
            first.invite(meeting, 1, false);
            first.send(meeting);
            first.deliver(meeting);
        }
        floor("left out from the first copies on", first, 1, 1);
        changed("left out from the first copies on", first, 1, 1, "1 2 3");
    }

    private void thereAgain() {
        edges.of(CHAPTER, "(it is there again when it gets a mark again)");
        MeetingServer server = guest();
        for (int meeting = 0; meeting < 4; meeting++) {
            server.answer(1, meeting, NONE, ACCEPTED);
            server.cancel(meeting);
        }
        int mark = server.mark(2);
        changed("the first one is forgotten", server, 2, Look.floor(server, 2), "1 2 3");
        server.deliver(8);
        edges.due("a reply for it is kept", server.mark(2), mark + 1);
        changed("it is there, and the next one forgotten", server, 2, Look.floor(server, 2), "2 3 0");
        server.deliver(9);
        changed("so is this one", server, 2, Look.floor(server, 2), "3 0 1");
        MeetingServer left = guest();
        for (int meeting = 1; meeting < 5; meeting++) {
            lose(left, meeting);
        }
        floor("of another person", left, 1, 9);
        changed("of another person", left, 1, 9, "2 3 4");
        left.invite(1, 1, true);
        left.send(1);
        left.deliver(left.messages() - 1);
        changed("a copy that is there comes", left, 1, 9, "2 3 4 1");
        floor("nothing more is forgotten", left, 1, 9);
        lose(left, 0);
        changed("a fourth one gone", left, 1, 10, "3 4 1 0");
    }

    private void forgottenAtOnce() {
        edges.of(CHAPTER, "If a person has more than 3 entries that are gone then");
        MeetingServer server = guest();
        server.answer(1, 0, NONE, ACCEPTED);
        for (int meeting = 0; meeting < 3; meeting++) {
            server.cancel(meeting);
        }
        floor("three gone", server, 2, 0);
        server.deliver(8);
        floor("a reply for one of three", server, 2, 0);
        changed("a reply for one of three", server, 2, server.mark(2) - 3, "1 2 0");
        server.cancel(3);
        changed("a fourth one", server, 2, Look.floor(server, 2), "2 0 3");
    }

    private void floorOfOthers() {
        edges.of(CHAPTER, "the person's floor, 0 at first");
        MeetingServer server = Scenes.forgetful();
        floor("the organiser's", server, 2, 9);
        for (int person = 0; person < 5; person++) {
            if (person != 2) {
                floor("of " + person, server, person, 0);
            }
        }
    }

    // ---- promises 42 to 44

    private void mark() {
        edges.of(42, "Returns a person's mark.");
        edges.due("at first", new MeetingServer().mark(4), 0);
        MeetingServer wide = Scenes.wide();
        edges.due("the first person", wide.mark(0), 2);
        edges.due("the last person", wide.mark(4), 2);
        edges.of(42, "Returns the mark.");
        edges.due("the organiser: eight made, twelve changes", wide.mark(2), 20);
    }

    private void changes() {
        edges.of(43, "Returns how many of a person's entries that are not forgotten have a mark above one.");
        MeetingServer server = Scenes.eight();
        for (int mark = 0; mark <= 8; mark++) {
            edges.due("above " + mark, server.changes(2, mark), 8 - mark);
        }
        edges.of(43, "Returns how many.");
        edges.due("of one who has none", server.changes(0, 0), 0);
        edges.due("forgotten ones do not count", Scenes.forgetful().changes(2, 9), 3);
        edges.of(43, "`mark`: 0 to the person's mark");
        edges.badArgument("-1", Scenes::eight, x -> x.changes(2, -1));
        edges.badArgument("1 more than the person's mark", Scenes::eight, x -> x.changes(2, 9));
        edges.badArgument("1 of one who has 0", Scenes::eight, x -> x.changes(1, 1));
    }

    private void changeAt() {
        edges.of(44, "Returns the meeting of one of these entries.");
        MeetingServer server = Scenes.eight();
        server.move(0, 3, 90);
        edges.due("the first place", server.changeAt(2, 0, 0), 1);
        edges.due("the last place", server.changeAt(2, 0, 7), 0);
        edges.due("no place behind it", Check.thrownBy(() -> server.changeAt(2, 0, 8)), "IndexOutOfBoundsException");
        edges.of(44, "`place`: 0 for the one with the lowest mark");
        edges.due("above its mark", server.changeAt(2, 2, 0), 2);
        edges.due("above all but one", server.changeAt(2, 8, 0), 0);
        edges.of(44, "Returns the meeting.");
        edges.due("above all", Check.thrownBy(() -> server.changeAt(2, 9, 0)), "IndexOutOfBoundsException");
        edges.due("the floor", Scenes.forgetful().changeAt(2, 9, 2), 3);
    }
}
