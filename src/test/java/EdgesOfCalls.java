import java.util.function.Supplier;

/** Of each promise: the ends of the ranges at its arguments, and its rows 'Throws', each and in their order. */
final class EdgesOfCalls {
    private static final String NO_ZONE = "Throws `IndexOutOfBoundsException` if there is no such zone";
    private static final String NO_PERSON = "Throws `IndexOutOfBoundsException` if there is no such person";
    private static final String NO_MEETING = "Throws `IndexOutOfBoundsException` if there is no such meeting";
    private static final String NO_MESSAGE = "Throws `IndexOutOfBoundsException` if there is no such message";
    private static final String NO_PERSON_OR_MEETING = NO_PERSON + " or meeting";
    private static final String NO_MEETING_OR_PERSON = NO_MEETING + " or person";
    private static final String DAY_OUT = "Throws `IllegalArgumentException` if day is out of range";
    private static final String TIME_OUT = "Throws `IllegalArgumentException` if day, hour or length is out of range";
    private static final String HOUR_OUT = "Throws `IllegalArgumentException` if hour is out of range";
    private static final String LOCAL_OUT = "Throws `IllegalArgumentException` if local is out of range";
    private static final String MARK_OUT = "Throws `IllegalArgumentException` if mark is out of range";
    private static final String SEARCH_OUT =
            "Throws `IllegalArgumentException` if people, from or length is out of range";
    private static final String CANCELLED = "Throws `IllegalStateException` if it is cancelled";
    private static final String NO_DATE = CANCELLED + ", or the day is no date of it";
    private static final String NOT_OPEN = "Throws `IllegalStateException` if it is no proposal, or not open";
    private static final String A_PERSON = "`person`: a person";
    private static final String A_MEETING = "`meeting`: a meeting";
    private static final String A_MESSAGE = "`message`: a message";
    private static final String A_DAY = "`day`: a day";
    private static final String A_ZONE = "`zone`: 0 to 2";

    private final Edges edges;

    EdgesOfCalls(Edges edges) {
        this.edges = edges;
    }

    void run() {
        zones();
        make();
        time();
        repeat();
        dropAndAdd();
        move();
        invite();
        cancelAndSend();
        takeAndRefuse();
        answer();
        delegate();
        propose();
        messages();
        held();
        dateAt();
        beginAndOwnAnswer();
        known();
        proposals();
        busy();
        marks();
    }

    private Refusals of(int promise, Supplier<MeetingServer> scene, Refusals.Body body, int... right) {
        return new Refusals(edges, promise, scene, body, right);
    }

    // ---- 2 to 5

    private void zones() {
        of(2, Scenes::clocks, (x, a) -> x.setOffset(a[0], a[1]), 1, 4)
                .range(0, A_ZONE, 0, 2, NO_ZONE)
                .range(1, "`offset`: -12 to 12", -12, 12,
                        "Throws `IllegalArgumentException` if offset is out of range").inOrder();
        String summerOut = "Throws `IllegalArgumentException` if first or last is out of range";
        String lastRow = "`last`: its last day, first and 1, together, to 60; any number if first is NONE";
        of(3, Scenes::clocks, (x, a) -> x.setSummer(a[0], a[1], a[2]), 1, 20, 60)
                .range(0, A_ZONE, 0, 2, NO_ZONE)
                .range(1, "`first`: its first day, 0 to 59; or NONE for no summer", -1, 59, summerOut)
                .taken("the first day 0", Scenes::clocks, 1, 0)
                .range(2, lastRow, 21, 60, summerOut).inOrder();
        of(3, Scenes::clocks, (x, a) -> x.setSummer(a[0], a[1], a[2]), 2, 0, 1)
                .range(2, lastRow, 1, 60, summerOut);
        of(3, Scenes::clocks, (x, a) -> x.setSummer(a[0], a[1], a[2]), 2, 59, 60)
                .range(2, lastRow, 60, 60, summerOut)
                .refused(summerOut, "the first day 60 and the last 61", 1, 60, 2, 61);
        edges.of(3, lastRow);
        of(3, Scenes::clocks, (x, a) -> x.setSummer(a[0], a[1], a[2]), 1, -1, 0)
                .taken("NONE and the lowest number", Scenes::clocks, 2, Integer.MIN_VALUE)
                .taken("NONE and the highest number", Scenes::clocks, 2, Integer.MAX_VALUE)
                .taken("NONE and NONE", Scenes::clocks, 2, -1)
                .taken("NONE and 61", Scenes::clocks, 2, 61);
        of(4, Scenes::clocks, (x, a) -> x.common(a[0], a[1]), 1, 100)
                .range(0, A_ZONE, 0, 2, NO_ZONE)
                .range(1, "`local`: -100 to 2000", -100, 2000, LOCAL_OUT).inOrder();
        of(5, Scenes::clocks, (x, a) -> x.local(a[0], a[1]), 1, 100)
                .range(0, A_ZONE, 0, 2, NO_ZONE)
                .range(1, "`hour`: -100 to 2000", -100, 2000, HOUR_OUT).inOrder();
    }

    // ---- 6 to 16

    private void make() {
        String noPersonOrZone = NO_PERSON + " or zone";
        of(6, () -> Scenes.several(7), (x, a) -> x.make(a[0], a[1], a[2], a[3], a[4]), 1, 1, 4, 9, 3)
                .range(0, "`person`: its organiser", 0, 4, noPersonOrZone)
                .range(1, "`zone`: its zone", 0, 2, noPersonOrZone)
                .range(2, "`day`: its first day", 0, 59, TIME_OUT)
                .range(3, "`hour`: the hour of the day", 0, 23, TIME_OUT)
                .range(4, "`length`: 1 to 23", 1, 23, TIME_OUT)
                .refused("Throws `IllegalStateException` if there are 8", "a ninth", Scenes::eight).inOrder();
    }

    private void time() {
        of(7, Scenes::wide, (x, a) -> x.time(a[0], a[1], a[2], a[3]), 0, 5, 12, 3)
                .range(0, A_MEETING, 0, 7, NO_MEETING)
                .range(1, "`day`: its first day", 0, 59, TIME_OUT)
                .range(2, "`hour`: the hour of the day", 0, 23, TIME_OUT)
                .range(3, "`length`: 1 to 23", 1, 23, TIME_OUT)
                .refused(CANCELLED, "cancelled", Scenes::wideCancelled).inOrder();
    }

    private void repeat() {
        String ruleOut = "Throws `IllegalArgumentException` if step, weekdays or count is out of range";
        of(8, Scenes::wide, (x, a) -> x.repeat(a[0], a[1], a[2], a[3]), 0, 2, 31, 4)
                .range(0, A_MEETING, 0, 7, NO_MEETING)
                .range(1, "`step`: 1 to 28", 1, 28, ruleOut)
                .range(2, "`weekdays`: 1 to 127: a set", 1, 127, ruleOut)
                .range(3, "`count`: 1 to 10", 1, 10, ruleOut)
                .refused(CANCELLED, "cancelled", Scenes::wideCancelled).inOrder();
    }

    private static MeetingServer added() {
        MeetingServer server = Scenes.eight();
        server.add(0, 4);
        return server;
    }

    private static MeetingServer eightCancelled() {
        MeetingServer server = Scenes.eight();
        server.cancel(0);
        return server;
    }

    private void dropAndAdd() {
        of(9, Scenes::wide, (x, a) -> x.drop(a[0], a[1]), 0, 3)
                .range(0, A_MEETING, 0, 7, NO_MEETING)
                .range(1, A_DAY, 0, 59, DAY_OUT)
                .refused(NO_DATE, "cancelled", Scenes::wideCancelled)
                .refused(NO_DATE, "no date", 1, 4)
                .refused(NO_DATE, "dropped already", Scenes::wideChanged).inOrder();
        String isDate = CANCELLED + ", or the day is a date of it";
        of(10, Scenes::eight, (x, a) -> x.add(a[0], a[1]), 0, 4)
                .range(0, A_MEETING, 0, 7, NO_MEETING)
                .range(1, "`day`: a day, of the rule or not", 0, 59, DAY_OUT)
                .refused(isDate, "cancelled", EdgesOfCalls::eightCancelled)
                .refused(isDate, "a date by the rule", 1, 3)
                .refused(isDate, "a date that was added", EdgesOfCalls::added).inOrder();
    }

    private void move() {
        of(11, Scenes::wide, (x, a) -> x.move(a[0], a[1], a[2]), 0, 3, 100)
                .range(0, A_MEETING, 0, 7, NO_MEETING)
                .range(1, A_DAY, 0, 59, "Throws `IllegalArgumentException` if day or local is out of range")
                .range(2, "`local`: the local hour to which it is moved, 0 to 1439", 0, 1439,
                        "Throws `IllegalArgumentException` if day or local is out of range")
                .refused(NO_DATE, "cancelled", Scenes::wideCancelled)
                .refused(NO_DATE, "no date", 1, 4)
                .refused(NO_DATE, "dropped", Scenes::wideChanged).inOrder();
    }

    private static MeetingServer invitedOrNot(boolean isInvited) {
        MeetingServer server = Scenes.eight();
        server.invite(0, 1, isInvited);
        return server;
    }

    private void invite() {
        String already = CANCELLED + ", or the person is invited already, or left out already";
        for (boolean isInvited : new boolean[] {true, false}) {
            edges.of(12, "`isInvited`: whether the person is invited");
            of(12, Scenes::eight, (x, a) -> x.invite(a[0], a[1], isInvited), 0, 1)
                    .taken("isInvited " + isInvited, Scenes::eight)
                    .range(0, A_MEETING, 0, 7, NO_MEETING_OR_PERSON)
                    .range(1, A_PERSON, 0, 4, NO_MEETING_OR_PERSON)
                    .refused("Throws `IllegalArgumentException` if the person is the organiser", "the organiser", 1, 2)
                    .refused(already, "cancelled", EdgesOfCalls::eightCancelled)
                    .refused(already, "already " + isInvited, () -> invitedOrNot(isInvited))
                    .taken("already the other", () -> invitedOrNot(!isInvited)).inOrder();
        }
    }

    private void cancelAndSend() {
        of(13, Scenes::wide, (x, a) -> x.cancel(a[0]), 0)
                .range(0, A_MEETING, 0, 7, NO_MEETING)
                .refused(CANCELLED, "cancelled", Scenes::wideCancelled).inOrder();
        String noRoom = "Throws `IllegalStateException` if there would be more than 150 messages";
        of(14, Scenes::wide, (x, a) -> x.send(a[0]), 0)
                .range(0, A_MEETING, 0, 7, NO_MEETING)
                .refused(noRoom, "four to 147", () -> Scenes.wideWithMessages(147))
                .refused(noRoom, "four to 150", () -> Scenes.wideWithMessages(150))
                .taken("four to 146", () -> Scenes.wideWithMessages(146))
                .taken("none to 150", () -> Scenes.wideWithMessages(150), 0, 1).inOrder();
    }

    /** wide() with 150 messages: 8 is an open proposal, 9 one that has not come, and the last one is open, too. */
    private static MeetingServer proposed() {
        MeetingServer server = Scenes.wide();
        server.propose(1, 0, 3, 90);
        server.propose(1, 0, 3, 95);
        Scenes.fill(server, 149);
        server.propose(4, 7, 59, 100);
        server.deliver(8);
        server.deliver(149);
        return server;
    }

    private interface Then {
        void on(MeetingServer server);
    }

    private static Supplier<MeetingServer> proposedAnd(Then then) {
        return () -> {
            MeetingServer server = proposed();
            then.on(server);
            return server;
        };
    }

    private void takeAndRefuse() {
        for (int promise = 15; promise <= 16; promise++) {
            Refusals.Body body = promise == 15 ? (x, a) -> x.take(a[0]) : (x, a) -> x.refuse(a[0]);
            edges.of(promise, A_MESSAGE);
            of(promise, EdgesOfCalls::proposed, body, 8)
                    .taken("an open one", EdgesOfCalls::proposed, 0, 8)
                    .taken("the last one", EdgesOfCalls::proposed, 0, 149)
                    .outside(0, 0, 149, NO_MESSAGE)
                    .refused(NOT_OPEN, "a request", 0, 0)
                    .refused(NOT_OPEN, "a reply", 0, 10)
                    .refused(NOT_OPEN, "one that has not come", 0, 9)
                    .refused(NOT_OPEN, "refused", proposedAnd(x -> x.refuse(8)))
                    .refused(NOT_OPEN, "taken", proposedAnd(x -> x.take(8)))
                    .refused(NOT_OPEN, "cancelled", proposedAnd(x -> x.cancel(0)))
                    .refused(NOT_OPEN, "no date any more", proposedAnd(x -> x.drop(0, 3)))
                    .refused(NOT_OPEN, "moved", proposedAnd(x -> x.move(0, 3, 82)))
                    .refused(NOT_OPEN, "another time", proposedAnd(x -> x.time(0, 3, 10, 2)))
                    .refused(NOT_OPEN, "another rule", proposedAnd(x -> x.repeat(0, 1, 127, 1)))
                    .taken("another day added", proposedAnd(x -> x.add(0, 20)))
                    .taken("the other meeting cancelled", proposedAnd(x -> x.cancel(7))).inOrder();
            of(promise, MeetingServer::new, body, 0).refused(NO_MESSAGE, "message 0 of none");
        }
    }

    // ---- 17 to 19

    private void answer() {
        String row = "Throws `IllegalStateException` if no copy of the person is there, day is not NONE and no date"
                + " of it, or there are 150 messages";
        String out = "Throws `IllegalArgumentException` if day is out of range and not NONE, or answer is out of range";
        of(17, Scenes::wide, (x, a) -> x.answer(a[0], a[1], a[2], a[3]), 1, 0, 3, 1)
                .range(0, A_PERSON, 0, 4, NO_PERSON_OR_MEETING)
                .range(1, A_MEETING, 0, 7, NO_PERSON_OR_MEETING)
                .range(2, "`day`: a date of the person's copy; or NONE for all", -1, 59, out)
                .taken("the first day", Scenes::wide, 2, 0)
                .range(3, "`answer`: ACCEPTED, TENTATIVE or DECLINED", 1, 3, out)
                .refused(row, "no copy", 1, 1)
                .refused(row, "no copy, for all", 1, 1, 2, -1)
                .refused(row, "the organiser", 0, 2)
                .refused(row, "the organiser, for all", 0, 2, 2, -1)
                .refused(row, "left out", Scenes::wideLeftOut)
                .refused(row, "a cancelled copy", Scenes::wideCancelledCopy)
                .refused(row, "no date", 2, 4)
                .refused(row, "a date of now, but not of the copy", Scenes::wideChanged, 2, 20)
                .refused(row, "150 messages", () -> Scenes.wideWithMessages(150))
                .refused(row, "150 messages, for all", () -> Scenes.wideWithMessages(150), 2, -1)
                .taken("149 messages", () -> Scenes.wideWithMessages(149))
                .taken("cancelled, but not in the copy", Scenes::wideCancelled)
                .taken("a date of the copy, but not of now", Scenes::wideChanged, 2, 3).inOrder();
    }

    private void delegate() {
        String nobody = "Throws `IndexOutOfBoundsException` if there is no such person, of either, or meeting";
        String wrongOther = "Throws `IllegalArgumentException` if other is the same person, or the organiser";
        String row = "Throws `IllegalStateException` if no copy of the person is there, or there would be more than"
                + " 150 messages";
        of(18, Scenes::wide, (x, a) -> x.delegate(a[0], a[1], a[2]), 1, 0, 3)
                .range(0, A_PERSON, 0, 4, nobody)
                .range(1, A_MEETING, 0, 7, nobody)
                .range(2, "`other`: another person, not the organiser", 0, 4, nobody)
                .refused(wrongOther, "the same person", 0, 1, 2, 1)
                .refused(wrongOther, "the organiser", 2, 2)
                .refused(wrongOther, "the organiser by the organiser", 0, 2, 2, 2)
                .refused(row, "no copy", 1, 1)
                .refused(row, "by the organiser", 0, 2)
                .refused(row, "left out", Scenes::wideLeftOut)
                .refused(row, "a cancelled copy", Scenes::wideCancelledCopy)
                .refused(row, "149 messages", () -> Scenes.wideWithMessages(149))
                .refused(row, "150 messages", () -> Scenes.wideWithMessages(150))
                .taken("148 messages", () -> Scenes.wideWithMessages(148))
                .taken("cancelled, but not in the copy", Scenes::wideCancelled).inOrder();
    }

    private void propose() {
        String out = "Throws `IllegalArgumentException` if day or local is out of range";
        String row = "Throws `IllegalStateException` if no copy of the person is there, day is no date of it, or"
                + " there are 150 messages";
        of(19, Scenes::wide, (x, a) -> x.propose(a[0], a[1], a[2], a[3]), 1, 0, 3, 90)
                .range(0, A_PERSON, 0, 4, NO_PERSON_OR_MEETING)
                .range(1, A_MEETING, 0, 7, NO_PERSON_OR_MEETING)
                .range(2, "`day`: a date of the person's copy", 0, 59, out)
                .range(3, "`local`: the local hour, of the zone of the meeting, to which it could be moved, 0 to 1439",
                        0, 1439, out)
                .refused(row, "no copy", 1, 1)
                .refused(row, "the organiser", 0, 2)
                .refused(row, "left out", Scenes::wideLeftOut)
                .refused(row, "a cancelled copy", Scenes::wideCancelledCopy)
                .refused(row, "no date", 2, 4)
                .refused(row, "a date of now, but not of the copy", Scenes::wideChanged, 2, 20)
                .refused(row, "150 messages", () -> Scenes.wideWithMessages(150))
                .taken("149 messages", () -> Scenes.wideWithMessages(149))
                .taken("cancelled, but not in the copy", Scenes::wideCancelled)
                .taken("a date of the copy, but not of now", Scenes::wideChanged, 2, 3).inOrder();
    }

    // ---- 20 to 25

    private void messages() {
        ofMessages(20, (x, a) -> x.deliver(a[0]));
        ofMessages(22, (x, a) -> x.kindOf(a[0]));
        ofMessages(23, (x, a) -> x.receiver(a[0]));
        ofMessages(24, (x, a) -> x.lineLength(a[0]));
        ofMessages(25, (x, a) -> x.lineChar(a[0], 0));
        // the message 0 is 'request ca 0 6'
        of(25, Scenes::wide, (x, a) -> x.lineChar(a[0], a[1]), 0, 0)
                .range(1, "`place`: 0 for the first one", 0, 13, NO_MESSAGE + " or place");
    }

    private void ofMessages(int promise, Refusals.Body body) {
        of(promise, Scenes::wide, body, 0).range(0, A_MESSAGE, 0, 7, NO_MESSAGE);
        of(promise, () -> Scenes.wideWithMessages(150), body, 0).range(0, A_MESSAGE, 0, 149, NO_MESSAGE);
        of(promise, Scenes::eight, body, 0).refused(NO_MESSAGE, "message 0 of none");
    }

    // ---- 27 to 32

    private void held() {
        ofPersonAndMeeting(27, (x, a) -> x.isThere(a[0], a[1]));
        ofPersonAndMeeting(28, (x, a) -> x.sequence(a[0], a[1]));
        ofPersonAndMeeting(29, (x, a) -> x.dates(a[0], a[1]));
    }

    private void ofPersonAndMeeting(int promise, Refusals.Body body) {
        of(promise, Scenes::wide, body, 1, 0)
                .range(0, A_PERSON, 0, 4, NO_PERSON_OR_MEETING)
                .range(1, A_MEETING, 0, 7, NO_PERSON_OR_MEETING);
        of(promise, MeetingServer::new, body, 1, 0).refused(NO_PERSON_OR_MEETING, "meeting 0 of none");
        of(promise, () -> Scenes.several(1), body, 1, 1).refused(NO_PERSON_OR_MEETING, "meeting 1 of one");
    }

    private void dateAt() {
        String nowhere = "Throws `IndexOutOfBoundsException` if there is no such person, meeting or place";
        of(30, Scenes::wide, (x, a) -> x.dateAt(a[0], a[1], a[2]), 1, 0, 0)
                .range(0, A_PERSON, 0, 4, nowhere)
                .range(1, A_MEETING, 0, 7, nowhere)
                .range(2, "`place`: 0 for the lowest day", 0, 2, nowhere)
                .refused(nowhere, "no copy", 1, 1)
                .refused(nowhere, "cancelled, of the organiser", Scenes::wideCancelled, 0, 2)
                .refused(nowhere, "left out", Scenes::wideLeftOut)
                .refused(nowhere, "a cancelled copy", Scenes::wideCancelledCopy)
                .taken("cancelled, but not in the copy", Scenes::wideCancelled);
        of(30, () -> Scenes.several(1), (x, a) -> x.dateAt(a[0], a[1], a[2]), 2, 0, 0)
                .range(2, "`place`: 0 for the lowest day", 0, 0, nowhere);
    }

    private void beginAndOwnAnswer() {
        String beginRow = "Throws `IllegalStateException` if it is not there, or the day is no date of it";
        ofPersonAndDate(31, (x, a) -> x.begin(a[0], a[1], a[2]), beginRow);
        ofPersonAndDate(32, (x, a) -> x.ownAnswer(a[0], a[1], a[2]), beginRow + ", as this person has it");
    }

    private void ofPersonAndDate(int promise, Refusals.Body body, String row) {
        of(promise, Scenes::wide, body, 1, 0, 3)
                .range(0, A_PERSON, 0, 4, NO_PERSON_OR_MEETING)
                .range(1, A_MEETING, 0, 7, NO_PERSON_OR_MEETING)
                .range(2, A_DAY, 0, 59, DAY_OUT)
                .refused(row, "no copy", 1, 1)
                .refused(row, "cancelled, of the organiser", Scenes::wideCancelled, 0, 2)
                .refused(row, "left out", Scenes::wideLeftOut)
                .refused(row, "a cancelled copy", Scenes::wideCancelledCopy)
                .refused(row, "no date", 2, 4)
                .refused(row, "no date of the organiser", 0, 2, 2, 4)
                .refused(row, "a date of now, but not of the copy", Scenes::wideChanged, 2, 20)
                .refused(row, "a date of the copy, but not of now", Scenes::wideChanged, 0, 2)
                .taken("cancelled, but not in the copy", Scenes::wideCancelled)
                .taken("the organiser's date of now", Scenes::wideChanged, 0, 2, 2, 20)
                .taken("the date of the copy", Scenes::wideChanged).inOrder();
    }

    // ---- 33 to 38

    private void known() {
        of(33, Scenes::wide, (x, a) -> x.isAsked(a[0], a[1]), 0, 1)
                .range(0, A_MEETING, 0, 7, NO_MEETING_OR_PERSON)
                .range(1, A_PERSON, 0, 4, NO_MEETING_OR_PERSON);
        ofDateKnown(34, (x, a) -> x.answerOf(a[0], a[1], a[2]));
        ofDateKnown(35, (x, a) -> x.answerByLog(a[0], a[1], a[2]));
        of(36, Scenes::wide, (x, a) -> x.agrees(a[0]), 0).range(0, A_MEETING, 0, 7, NO_MEETING);
        of(37, Scenes::wide, (x, a) -> x.proposals(a[0]), 0).range(0, A_MEETING, 0, 7, NO_MEETING);
        of(36, MeetingServer::new, (x, a) -> x.agrees(a[0]), 0).refused(NO_MEETING, "meeting 0 of none");
        of(37, MeetingServer::new, (x, a) -> x.proposals(a[0]), 0).refused(NO_MEETING, "meeting 0 of none");
    }

    private void ofDateKnown(int promise, Refusals.Body body) {
        String row = "Throws `IllegalStateException` if the day is no date of it";
        of(promise, Scenes::wide, body, 0, 1, 3)
                .range(0, A_MEETING, 0, 7, NO_MEETING_OR_PERSON)
                .range(1, A_PERSON, 0, 4, NO_MEETING_OR_PERSON)
                .range(2, A_DAY, 0, 59, DAY_OUT)
                .refused(row, "no date", 2, 4)
                .refused(row, "no date, of one who is not asked", 1, 2, 2, 4)
                .refused(row, "a date of the copy, but not of now", Scenes::wideChanged)
                .taken("a date of now, but not of the copy", Scenes::wideChanged, 2, 20)
                .taken("cancelled", Scenes::wideCancelled)
                .taken("of one who is not asked", Scenes::wide, 1, 2).inOrder();
    }

    /** wide() with two open proposals for the meeting 0, and one for the meeting 7. */
    private static MeetingServer threeProposals() {
        MeetingServer server = Scenes.wide();
        server.propose(1, 0, 3, 90);
        server.propose(1, 7, 3, 95);
        server.propose(3, 0, 3, 90);
        for (int message = 8; message <= 10; message++) {
            server.deliver(message);
        }
        return server;
    }

    private void proposals() {
        String nowhere = NO_MEETING + " or place";
        of(38, EdgesOfCalls::threeProposals, (x, a) -> x.proposalAt(a[0], a[1]), 0, 0)
                .range(0, A_MEETING, 0, 7, nowhere)
                .range(1, "`place`: 0 for the one with the lowest number", 0, 1, nowhere)
                .refused(nowhere, "place 1 of one", 0, 7, 1, 1)
                .refused(nowhere, "place 0 of none", 0, 1);
    }

    // ---- 39 to 44

    private void busy() {
        of(39, Scenes::wide, (x, a) -> x.rank(a[0], a[1]), 2, 82)
                .range(0, A_PERSON, 0, 4, NO_PERSON)
                .range(1, "`hour`: a common hour, -48 to 1600", -48, 1600, HOUR_OUT).inOrder();
        ofSearch(40, (x, a) -> x.firstFree(a[0], a[1], a[2]));
        ofSearch(41, (x, a) -> x.firstFreeByHours(a[0], a[1], a[2]));
    }

    private void ofSearch(int promise, Refusals.Body body) {
        of(promise, Scenes::wide, body, 4, 82, 2)
                .range(0, "`people`: 1 to 31: 2 to the power of p for each person p", 1, 31, SEARCH_OUT)
                .range(1, "`from`: a common hour, -48 to 1500", -48, 1500, SEARCH_OUT)
                .range(2, "`length`: 1 to 48", 1, 48, SEARCH_OUT);
    }

    private void marks() {
        String belowFloor = "Throws `IllegalStateException` if mark is below the floor";
        String markRow = "`mark`: 0 to the person's mark";
        of(42, Scenes::wide, (x, a) -> x.mark(a[0]), 1).range(0, A_PERSON, 0, 4, NO_PERSON);
        of(43, Scenes::wide, (x, a) -> x.changes(a[0], a[1]), 1, 0)
                .range(0, A_PERSON, 0, 4, NO_PERSON)
                .range(1, markRow, 0, 2, MARK_OUT);
        of(43, Scenes::forgetful, (x, a) -> x.changes(a[0], a[1]), 2, 9)
                .outside(0, 0, 4, NO_PERSON)
                .refused(MARK_OUT, "below 0 and the floor", 1, -1)
                .refused(MARK_OUT, "above the person's mark", 1, 13)
                .refused(belowFloor, "one below", 1, 8)
                .refused(belowFloor, "0", 1, 0)
                .taken("the floor", Scenes::forgetful)
                .taken("the person's mark", Scenes::forgetful, 1, 12).inOrder();
        String noPersonOrPlace = NO_PERSON + "; or, with a mark that can be asked, no such place";
        of(44, Scenes::wide, (x, a) -> x.changeAt(a[0], a[1], a[2]), 1, 0, 0)
                .range(0, A_PERSON, 0, 4, noPersonOrPlace)
                .range(2, "`place`: 0 for the one with the lowest mark", 0, 1, noPersonOrPlace)
                .refused(noPersonOrPlace, "place 1 of one", 1, 1, 2, 1)
                .refused(noPersonOrPlace, "place 0 of none", 1, 2)
                .outside(1, 0, 2, MARK_OUT);
        edges.of(44, markRow);
        of(44, Scenes::wide, (x, a) -> x.changeAt(a[0], a[1], a[2]), 1, 0, 0)
                .taken("0", Scenes::wide)
                .taken("the last with an entry above", Scenes::wide, 1, 1);
        of(44, Scenes::forgetful, (x, a) -> x.changeAt(a[0], a[1], a[2]), 2, 9, 0)
                .outside(0, 0, 4, noPersonOrPlace)
                .refused(MARK_OUT, "below 0 and the floor", 1, -1)
                .refused(MARK_OUT, "above the person's mark", 1, 13)
                .refused(belowFloor, "one below", 1, 8)
                .refused(belowFloor, "0", 1, 0)
                .refusedLast(noPersonOrPlace, "place -1", 2, -1)
                .refusedLast(noPersonOrPlace, "place 3 of three", 2, 3)
                .refusedLast(noPersonOrPlace, "the lowest place", 2, Integer.MIN_VALUE)
                .refusedLast(noPersonOrPlace, "the highest place", 2, Integer.MAX_VALUE)
                .inOrder();
    }
}
