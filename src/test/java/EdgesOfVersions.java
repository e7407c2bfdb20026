import java.util.function.Consumer;

/** The sentences of 'Meetings, versions', and of the promises 6 to 16. */
final class EdgesOfVersions {
    private static final String CHAPTER = "Meetings, versions";
    private static final int NONE = MeetingServer.NONE;
    private static final int NEEDED = MeetingServer.NEEDED;
    private static final int ACCEPTED = MeetingServer.ACCEPTED;
    private static final int BUSY = MeetingServer.BUSY;
    private static final int FREE = MeetingServer.FREE;

    private final Edges edges;

    EdgesOfVersions(Edges edges) {
        this.edges = edges;
    }

    void run() {
        people();
        atMostEightMeetings();
        firstVersion();
        whatHoldsStays();
        eachChangeMakesAVersion();
        versionsNeverChange();
        weekdays();
        daysUpTo59();
        countOfTheRule();
        noDateLeft();
        datesByRuleAndByHand();
        beginOfADate();
        standIsTheSequenceOfTheChange();
        standsOfAllDays();
        standsOfOneDay();
        changesWithoutAStand();
        standAtFirst();
        make();
        time();
        rule();
        drop();
        add();
        move();
        invite();
        cancel();
        sendToWhom();
        sendHowMany();
        take();
        refuse();
    }

    private void dates(String what, MeetingServer server, int person, int meeting, String want) {
        edges.due(what, Look.dates(server, person, meeting), want);
    }

    // ---- the chapter

    private void people() {
        edges.of(CHAPTER, "There are the people 0 to 4.");
        for (int person = 0; person < 5; person++) {
            MeetingServer server = new MeetingServer();
            int own = person;
            edges.due("makes a meeting: " + person, server.make(person, 0, 3, 10, 2), 0);
            edges.due("has it: " + person, server.isThere(person, 0), true);
            for (int other = 0; other < 5; other++) {
                if (other != own) {
                    edges.due(other + " has it not", server.isThere(other, 0), false);
                    server.invite(0, other, true);
                    edges.due(other + " can be asked", server.isAsked(0, other), true);
                }
            }
        }
        edges.noPlace("person -1", MeetingServer::new, x -> x.mark(-1));
        edges.noPlace("person 5", MeetingServer::new, x -> x.mark(5));
    }

    private void atMostEightMeetings() {
        edges.of(CHAPTER, "There are at most 8 meetings, numbered from 0; a meeting has an organiser.");
        MeetingServer server = new MeetingServer();
        for (int meeting = 0; meeting < 8; meeting++) {
            edges.due("number", server.make(meeting % 5, meeting % 3, meeting, 10, 2), meeting);
            edges.due("how many", server.meetings(), meeting + 1);
        }
        for (int meeting = 0; meeting < 8; meeting++) {
            dates("of its organiser", server, meeting % 5, meeting, String.valueOf(meeting));
            edges.due("not of another person", server.sequence((meeting + 1) % 5, meeting), NONE);
            server.cancel(meeting);
        }
        edges.due("a ninth, when all are cancelled",
                Check.thrownBy(() -> server.make(0, 0, 3, 10, 2)), "IllegalStateException");
        edges.due("eight then", server.meetings(), 8);
        edges.badState("a ninth", Scenes::eight, x -> x.make(1, 0, 3, 10, 2));
    }

    private void firstVersion() {
        edges.of(CHAPTER, "a sequence, 0 at first");
        edges.due("of the organiser", Scenes.several(1).sequence(2, 0), 0);
        edges.of(CHAPTER, "a step, 1 at first, a set of weekdays, all seven at first, and a count, 1 at first");
        MeetingServer server = new MeetingServer();
        server.make(0, 0, 0, 9, 1);
        for (int day = 0; day < 60; day++) {
            server.time(0, day, 9, 1);
            dates("one date, on any weekday", server, 0, 0, String.valueOf(day));
        }
        edges.of(CHAPTER, "what was changed for single days; who is invited, and who was left out; and whether it"
                + " is cancelled");
        MeetingServer made = Scenes.several(1);
        edges.due("not cancelled at first", made.isThere(2, 0), true);
        edges.due("nobody invited or left out at first", made.send(0), 0);
        edges.due("not moved at first", made.begin(2, 0, 3), 82);
    }

    /** What one change sets holds until another sets it again. */
    private void whatHoldsStays() {
        edges.of(CHAPTER, "What holds for a meeting is its version");
        MeetingServer server = new MeetingServer();
        server.setOffset(2, -12);
        server.make(4, 2, 3, 23, 23);
        server.repeat(0, 28, 1 + 8, 3);
        server.invite(0, 0, true);
        server.invite(0, 3, false);
        server.add(0, 0);
        server.move(0, 0, 1439);
        server.add(0, 1);
        server.drop(0, 31);
        server.invite(0, 1, true);
        dates("the rule, and the days", server, 4, 0, "0 1 3 59");
        edges.due("the hour and the zone", server.begin(4, 0, 3), 3 * 24 + 35);
        edges.due("the hour of a moved one", server.begin(4, 0, 0), 1451);
        lasts("the length", server, 4, 3 * 24 + 35, 23);
        edges.due("who is invited", server.isAsked(0, 0) && server.isAsked(0, 1) && !server.isAsked(0, 3), true);
        edges.due("to those, and to one left out", server.send(0), 3);
        server.deliver(1);
        server.deliver(2);
        edges.due("who is left out", server.isThere(1, 0) && !server.isThere(3, 0), true);
        server.time(0, 24, 1, 1);
        dates("the set of weekdays", server, 4, 0, "0 1 24 52");
        server.time(0, 23, 1, 1);
        dates("the set of weekdays, none in it", server, 4, 0, "0 1");
        server.time(0, 3, 1, 1);
        dates("dropped ones", server, 4, 0, "0 1 3 59");
    }

    /** Each row of this kind must return 1 more than the one ahead of it. */
    private void sequence(String what, int got, int want, MeetingServer server) {
        edges.due(what, got, want);
        edges.due(what + ", as the organiser has it", server.sequence(2, 0), want);
    }

    private void eachChangeMakesAVersion() {
        edges.of(CHAPTER, "Each change by the organiser makes a version with a sequence that is 1 more.");
        MeetingServer server = Scenes.several(1);
        sequence("time", server.time(0, 4, 10, 2), 1, server);
        sequence("the same time", server.time(0, 4, 10, 2), 2, server);
        sequence("repeat", server.repeat(0, 1, 127, 3), 3, server);
        sequence("the same rule", server.repeat(0, 1, 127, 3), 4, server);
        sequence("drop", server.drop(0, 5), 5, server);
        sequence("add", server.add(0, 5), 6, server);
        sequence("move", server.move(0, 5, 130), 7, server);
        sequence("to the same hour", server.move(0, 5, 130), 8, server);
        sequence("invite", server.invite(0, 1, true), 9, server);
        sequence("leave out", server.invite(0, 4, false), 10, server);
        server.send(0);
        server.deliver(0);
        server.propose(1, 0, 5, 140);
        server.propose(1, 0, 5, 150);
        server.deliver(2);
        server.deliver(3);
        server.refuse(2);
        server.deliver(server.answer(1, 0, NONE, ACCEPTED));
        server.setOffset(0, 3);
        edges.due("no version by sending, by messages, by a refusal or by clocks", server.sequence(2, 0), 10);
        sequence("take", server.take(3), 11, server);
        sequence("cancel", server.cancel(0), 12, server);
        edges.of("Exceptions", "---- what the organiser does; each returns the sequence then, if nothing else is told.");
        MeetingServer two = Scenes.several(2);
        edges.due("of its own meeting", two.time(1, 4, 10, 2), 1);
        edges.due("of the other one", two.time(0, 4, 10, 2), 1);
    }

    private void versionsNeverChange() {
        edges.of(CHAPTER, "A version once made never changes.");
        changeLater("time", x -> x.time(0, 30, 1, 9));
        changeLater("repeat", x -> x.repeat(0, 2, 127, 10));
        changeLater("drop", x -> x.drop(0, 3));
        changeLater("drop of a moved one", x -> x.drop(0, 59));
        changeLater("add", x -> x.add(0, 4));
        changeLater("move", x -> x.move(0, 3, 300));
        changeLater("move of a moved one", x -> x.move(0, 59, 300));
        changeLater("leave out", x -> x.invite(0, 1, false));
        changeLater("cancel", x -> x.cancel(0));
    }

    /** A request that was made ahead of a change brings what held then. */
    private void changeLater(String what, Consumer<MeetingServer> change) {
        MeetingServer server = Scenes.several(1);
        server.add(0, 59);
        server.move(0, 59, 200);
        server.invite(0, 1, true);
        server.send(0);
        change.accept(server);
        server.deliver(0);
        edges.due(what + ": sequence", server.sequence(1, 0), 3);
        dates(what + ": dates", server, 1, 0, "3 59");
        edges.due(what + ": hour", server.begin(1, 0, 3), 82);
        edges.due(what + ": moved", server.begin(1, 0, 59), 200);
        server.answer(1, 0, NONE, ACCEPTED);
        edges.due(what + ": length", server.rank(1, 83) * 10 + server.rank(1, 84), BUSY * 10 + FREE);
        edges.due(what + ": stand", server.ownAnswer(1, 0, 3), ACCEPTED);
    }

    private static String datesBy(int first, int step, int weekdays, int count) {
        MeetingServer server = new MeetingServer();
        server.make(0, 0, first, 9, 1);
        server.repeat(0, step, weekdays, count);
        return Look.dates(server, 0, 0);
    }

    private void weekdays() {
        edges.of(CHAPTER, "The weekday of a day is the day modulo 7; a set of weekdays has 2 to the power of w for each"
                + " weekday w in it.");
        edges.due("the weekday 0", datesBy(0, 1, 1, 10), "0 7 14 21 28 35 42 49 56");
        edges.due("the weekday 1", datesBy(0, 1, 2, 2), "1 8");
        edges.due("the weekday 2", datesBy(0, 1, 4, 2), "2 9");
        edges.due("the weekday 3", datesBy(0, 1, 8, 10), "3 10 17 24 31 38 45 52 59");
        edges.due("the weekday 4", datesBy(0, 1, 16, 10), "4 11 18 25 32 39 46 53");
        edges.due("the weekday 5", datesBy(0, 1, 32, 2), "5 12");
        edges.due("the weekday 6", datesBy(0, 1, 64, 10), "6 13 20 27 34 41 48 55");
        edges.due("all", datesBy(0, 1, 127, 10), "0 1 2 3 4 5 6 7 8 9");
        edges.due("all but the weekday 0", datesBy(0, 1, 126, 8), "1 2 3 4 5 6 8 9");
        edges.due("the first and the last", datesBy(50, 1, 65, 10), "55 56");
    }

    private void daysUpTo59() {
        edges.of(CHAPTER, "of the first day and each day that is a multiple of the step behind it, those up to the"
                + " day 59 whose weekday is in the set");
        edges.due("the first day 59", datesBy(59, 1, 127, 10), "59");
        edges.due("the first day 58", datesBy(58, 1, 127, 10), "58 59");
        edges.due("up to 59 by 28", datesBy(3, 28, 127, 10), "3 31 59");
        edges.due("60 is no day", datesBy(4, 28, 127, 10), "4 32");
        edges.due("the last step fits", datesBy(31, 28, 127, 2), "31 59");
        edges.due("the last step does not", datesBy(32, 28, 127, 2), "32");
        edges.due("by 2 to 58", datesBy(54, 2, 127, 10), "54 56 58");
        edges.due("by 2 to 59", datesBy(55, 2, 127, 10), "55 57 59");
        edges.due("the day 59 is not in the set", datesBy(57, 1, 127 - 8, 10), "57 58");
        edges.due("the first day is not in the set", datesBy(3, 3, 127 - 8, 3), "6 9 12");
    }

    private void countOfTheRule() {
        edges.of(CHAPTER, "and of these the first ones, as many as the count");
        edges.due("count 1", datesBy(5, 1, 127, 1), "5");
        edges.due("count 10", datesBy(5, 5, 127, 10), "5 10 15 20 25 30 35 40 45 50");
        edges.due("a count that is just reached", datesBy(50, 1, 127, 10), "50 51 52 53 54 55 56 57 58 59");
        edges.due("a count that is not reached by one", datesBy(51, 1, 127, 10), "51 52 53 54 55 56 57 58 59");
        edges.due("a count that is not reached", datesBy(0, 7, 127, 10), "0 7 14 21 28 35 42 49 56");
        edges.due("days out of the set do not count", datesBy(3, 1, 1, 1), "7");
    }

    private void noDateLeft() {
        edges.of(CHAPTER, "those up to the day 59 whose weekday is in the set");
        MeetingServer server = Scenes.several(1);
        server.repeat(0, 7, 127 - 8, 10);
        withoutDates("none of the rule", server);
        server.repeat(0, 1, 127, 1);
        server.drop(0, 3);
        withoutDates("the last one dropped", server);
        edges.due("dropped already", Check.thrownBy(() -> server.drop(0, 3)), "IllegalStateException");
        server.add(0, 3);
        dates("added again", server, 2, 0, "3");
    }

    private void withoutDates(String what, MeetingServer server) {
        edges.due(what + ": dates", server.dates(2, 0), 0);
        edges.due(what + ": there", server.isThere(2, 0), true);
        edges.due(what + ": place 0", Check.thrownBy(() -> server.dateAt(2, 0, 0)), "IndexOutOfBoundsException");
        edges.due(what + ": agrees", server.agrees(0), true);
        edges.due(what + ": free", server.firstFree(4, -48, 48) + server.firstFreeByHours(4, -48, 48), -96);
        edges.due(what + ": busy", server.rank(2, 82), FREE);
    }

    private void datesByRuleAndByHand() {
        edges.of(CHAPTER, "A date of a version is a day that was added, or a day of the rule that was not dropped.");
        MeetingServer server = new MeetingServer();
        server.make(0, 0, 0, 9, 1);
        for (int day = 1; day < 60; day++) {
            edges.due("add " + day, server.add(0, day), day);
        }
        edges.due("all days", server.dates(0, 0), 60);
        edges.due("the first of all", server.dateAt(0, 0, 0), 0);
        edges.due("the last of all", server.dateAt(0, 0, 59), 59);
        for (int day = 0; day < 60; day++) {
            server.drop(0, day);
        }
        edges.due("none", server.dates(0, 0), 0);
        server.repeat(0, 1, 127, 10);
        edges.due("of the rule, but dropped", server.dates(0, 0), 0);
        server.add(0, 0);
        server.add(0, 59);
        dates("of the rule or not, dropped and added again", server, 0, 0, "0 59");
    }

    private void beginOfADate() {
        edges.of(CHAPTER, "The meeting of a date begins at the hour of the day of its own day, as the clock of the zone"
                + " tells, unless the date was moved: then at the local hour to which it was moved.");
        MeetingServer server = new MeetingServer();
        server.setOffset(1, 1);
        server.setSummer(1, 10, 12);
        server.make(0, 1, 9, 2, 1);
        server.repeat(0, 1, 127, 5);
        edges.due("ahead of the summer", server.begin(0, 0, 9), 9 * 24 + 1);
        edges.due("an hour that does not come", server.begin(0, 0, 10), 10 * 24 + 1);
        edges.due("in the summer", server.begin(0, 0, 11), 11 * 24);
        edges.due("an hour that comes twice", server.begin(0, 0, 12), 12 * 24);
        edges.due("behind the summer", server.begin(0, 0, 13), 13 * 24 + 1);
        server.move(0, 13, 10 * 24 + 2);
        edges.due("moved to an hour that does not come", server.begin(0, 0, 13), 10 * 24 + 1);
        server.move(0, 13, 12 * 24 + 2);
        edges.due("moved to an hour that comes twice", server.begin(0, 0, 13), 12 * 24);
        server.move(0, 13, 0);
        edges.due("moved to the first local hour", server.begin(0, 0, 13), -1);
        server.move(0, 13, 1439);
        edges.due("moved to the last local hour", server.begin(0, 0, 13), 1438);
        server.time(0, 9, 23, 1);
        edges.due("moved ones stay at another time", server.begin(0, 0, 13), 1438);
        edges.due("the others do not", server.begin(0, 0, 9), 9 * 24 + 22);
    }

    /** wide(), and person 1 has accepted the meeting 0 for all, with the sequence 6; it is kept. */
    private static MeetingServer accepted() {
        MeetingServer server = Scenes.wide();
        server.deliver(server.answer(1, 0, NONE, ACCEPTED));
        return server;
    }

    /** Of the days 0, 3 and 59 whether the answer of person 1 still counts, as 1s and 0s. */
    private static String counting(MeetingServer server) {
        StringBuilder text = new StringBuilder();
        for (int day : new int[] {0, 3, 59}) {
            text.append(server.answerOf(0, 1, day) == ACCEPTED ? '1' : '0');
        }
        return text.toString();
    }

    private void standIsTheSequenceOfTheChange() {
        edges.of(CHAPTER, "Each day has a stand: the sequence with which its time was changed last.");
        MeetingServer server = accepted();
        edges.due("ahead of a change", counting(server), "111");
        edges.due("the sequence then", server.move(0, 3, 82), 7);
        edges.due("a sequence one below the stand", counting(server), "101");
        server.send(0);
        server.deliver(10);
        server.deliver(server.answer(1, 0, 3, ACCEPTED));
        edges.due("the stand as the sequence", counting(server), "111");
        server.invite(0, 4, false);
        edges.due("a stand below the sequence of now", counting(server), "111");
        server.move(0, 3, 82);
        edges.due("changed last", counting(server), "101");
    }

    private void standsOfAllDays() {
        edges.of(CHAPTER, "A change of the time or the rule of all sets the stand of all days");
        MeetingServer same = accepted();
        same.repeat(0, 1, 127, 1);
        dates("the same dates", same, 2, 0, "0 3 59");
        edges.due("the same rule", counting(same), "000");
        MeetingServer sameTime = accepted();
        sameTime.time(0, 3, 10, 2);
        edges.due("the same time", counting(sameTime), "000");
        MeetingServer moved = accepted();
        moved.move(0, 59, 200);
        moved.send(0);
        moved.deliver(10);
        moved.deliver(moved.answer(1, 0, NONE, ACCEPTED));
        edges.due("answered again", counting(moved), "111");
        moved.time(0, 3, 11, 2);
        edges.due("a moved one's, too", counting(moved), "000");
    }

    private void standsOfOneDay() {
        edges.of(CHAPTER, "one that adds or moves a date that of its day");
        for (int day = 0; day < 3; day++) {
            int moved = new int[] {0, 3, 59}[day];
            MeetingServer server = accepted();
            server.move(0, moved, 82);
            edges.due("move of " + moved, counting(server), new String[] {"011", "101", "110"}[day]);
            MeetingServer again = accepted();
            again.drop(0, moved);
            again.add(0, moved);
            edges.due("add of " + moved, counting(again), new String[] {"011", "101", "110"}[day]);
        }
        MeetingServer added = accepted();
        added.add(0, 4);
        edges.due("of the day that was added", added.answerOf(0, 1, 4), NEEDED);
        edges.due("of no other day", counting(added), "111");
        MeetingServer taken = accepted();
        taken.propose(1, 0, 59, 300);
        taken.deliver(9);
        taken.take(9);
        edges.due("take moves, too", counting(taken), "110");
    }

    private void changesWithoutAStand() {
        edges.of(CHAPTER, "others set none");
        MeetingServer server = accepted();
        server.invite(0, 3, false);
        edges.due("leave out", counting(server), "111");
        server.invite(0, 3, true);
        edges.due("invite", counting(server), "111");
        server.setOffset(0, 3);
        edges.due("a clock", counting(server), "111");
        server.add(0, 20);
        server.drop(0, 20);
        edges.due("drop", counting(server), "111");
        server.cancel(0);
        edges.due("cancel", counting(server), "111");
    }

    private void standAtFirst() {
        edges.of(CHAPTER, "At first all have the stand 0.");
        MeetingServer server = Scenes.several(1);
        server.invite(0, 1, true);
        server.send(0);
        server.deliver(0);
        server.deliver(server.answer(1, 0, NONE, ACCEPTED));
        edges.due("a reply with the sequence 1", server.answerOf(0, 1, 3), ACCEPTED);
        edges.due("as the person knows it", server.ownAnswer(1, 0, 3), ACCEPTED);
    }

    // ---- promises 6 to 8

    /** A new meeting with this time: its dates, when it begins, and how long it is. */
    private void made(int[] time, String dates, int begin) {
        MeetingServer server = new MeetingServer();
        server.make(4, 1, time[0], time[1], time[2]);
        String what = "on " + time[0] + " at " + time[1] + " for " + time[2];
        dates(what + ": dates", server, 4, 0, dates);
        edges.due(what + ": begin", server.begin(4, 0, time[0]), begin);
        lasts(what, server, 4, begin, time[2]);
    }

    private void lasts(String what, MeetingServer server, int person, int begin, int length) {
        edges.due(what + ": ahead", server.rank(person, begin - 1), FREE);
        edges.due(what + ": the first hour", server.rank(person, begin), BUSY);
        edges.due(what + ": the last hour", server.rank(person, begin + length - 1), BUSY);
        edges.due(what + ": behind", server.rank(person, begin + length), FREE);
    }

    private void make() {
        edges.of(6, "Makes a meeting, of one date.");
        made(new int[] {0, 0, 1}, "0", 0);
        made(new int[] {0, 23, 23}, "0", 23);
        made(new int[] {59, 0, 23}, "59", 59 * 24);
        made(new int[] {59, 23, 1}, "59", 1439);
        made(new int[] {59, 23, 23}, "59", 1439);
        edges.of(6, "Returns its number.");
        MeetingServer server = new MeetingServer();
        for (int meeting = 0; meeting < 8; meeting++) {
            edges.due("number " + meeting, server.make(0, 0, 3, 10, 2), meeting);
        }
    }

    private void time() {
        edges.of(7, "Changes the time of all dates; those that were added, dropped or moved stay so.");
        MeetingServer server = Scenes.several(1);
        server.time(0, 0, 0, 1);
        dates("the first day", server, 2, 0, "0");
        lasts("the shortest", server, 2, 0, 1);
        server.time(0, 59, 23, 23);
        dates("the last day", server, 2, 0, "59");
        lasts("the longest", server, 2, 1439, 23);
        server.repeat(0, 1, 127, 10);
        server.time(0, 2, 8, 1);
        server.drop(0, 4);
        server.add(0, 40);
        server.move(0, 5, 500);
        server.time(0, 3, 9, 2);
        dates("added and dropped ones stay so", server, 2, 0, "3 5 6 7 8 9 10 11 12 40");
        edges.due("the hour of all", server.begin(2, 0, 3), 81);
        edges.due("the hour of an added one", server.begin(2, 0, 40), 40 * 24 + 9);
        edges.due("moved ones stay so", server.begin(2, 0, 5), 500);
        lasts("the length of moved ones, too", server, 2, 500, 2);
        server.time(0, 6, 9, 2);
        server.time(0, 4, 9, 2);
        dates("a dropped one stays so behind a time without it", server, 2, 0, "5 6 7 8 9 10 11 12 13 40");
        edges.due("and a moved one", server.begin(2, 0, 5), 500);
        edges.of(7, "Returns the sequence then.");
        edges.due("of a new one", Scenes.several(1).time(0, 3, 10, 2), 1);
    }

    private void rule() {
        edges.of(8, "Changes the rule; days that were added, dropped or moved stay so.");
        edges.due("the lowest step", datesBy(3, 1, 127, 2), "3 4");
        edges.due("the highest step", datesBy(3, 28, 127, 2), "3 31");
        edges.due("the lowest set", datesBy(3, 1, 1, 1), "7");
        edges.due("the highest set", datesBy(3, 1, 127, 1), "3");
        edges.due("the lowest count", datesBy(3, 2, 127, 1), "3");
        edges.due("the highest count", datesBy(3, 2, 127, 10), "3 5 7 9 11 13 15 17 19 21");
        MeetingServer server = Scenes.several(1);
        server.repeat(0, 1, 127, 4);
        server.drop(0, 4);
        server.add(0, 4);
        server.drop(0, 5);
        server.add(0, 20);
        server.move(0, 6, 500);
        server.repeat(0, 1, 127, 2);
        dates("added ones, also of the rule before", server, 2, 0, "3 4 20");
        server.repeat(0, 1, 127, 10);
        dates("dropped ones", server, 2, 0, "3 4 6 7 8 9 10 11 12 20");
        edges.due("moved ones", server.begin(2, 0, 6), 500);
        edges.of(8, "Returns the sequence then.");
        edges.due("of a new one", Scenes.several(1).repeat(0, 28, 127, 10), 1);
    }

    // ---- promises 9 to 11

    private void drop() {
        edges.of(9, "(The day counts among those of the rule all the same.)");
        MeetingServer server = Scenes.several(1);
        server.repeat(0, 1, 127, 3);
        server.drop(0, 3);
        dates("the first one", server, 2, 0, "4 5");
        server.drop(0, 5);
        dates("the last one", server, 2, 0, "4");
        edges.of(9, "if it was moved, it is that no more");
        server.move(0, 4, 500);
        server.drop(0, 4);
        dates("all", server, 2, 0, "");
        server.add(0, 4);
        edges.due("added again", server.begin(2, 0, 4), 4 * 24 + 10);
        edges.of(9, "if its day was added, it is that no more");
        server.drop(0, 4);
        dates("no date, though of the rule", server, 2, 0, "");
        server.add(0, 40);
        server.drop(0, 40);
        dates("no date, not of the rule", server, 2, 0, "");
        server.repeat(0, 1, 127, 4);
        dates("another rule", server, 2, 0, "6");
        edges.of(9, "`day`: a day");
        MeetingServer wide = Scenes.wide();
        wide.drop(0, 0);
        dates("the day 0", wide, 2, 0, "3 59");
        wide.drop(0, 59);
        dates("the day 59", wide, 2, 0, "3");
        edges.of(9, "Returns the sequence then.");
        edges.due("of a new one", Scenes.several(1).drop(0, 3), 1);
    }

    private void add() {
        edges.of(10, "`day`: a day, of the rule or not");
        MeetingServer server = Scenes.several(1);
        server.add(0, 0);
        dates("the day 0", server, 2, 0, "0 3");
        server.add(0, 59);
        dates("the day 59", server, 2, 0, "0 3 59");
        edges.due("its hour", server.begin(2, 0, 59), 59 * 24 + 10);
        edges.of(10, "if its day was dropped, it is that no more");
        server.drop(0, 3);
        server.add(0, 3);
        dates("of the rule", server, 2, 0, "0 3 59");
        edges.of(10, "(It is one that was added then, and stays so with any other rule.)");
        server.time(0, 20, 10, 2);
        dates("with another first day", server, 2, 0, "0 3 20 59");
        server.repeat(0, 28, 127, 1);
        dates("with another rule", server, 2, 0, "0 3 20 59");
        server.repeat(0, 7, 127 - 64, 10);
        dates("with a rule without a day", server, 2, 0, "0 3 59");
        edges.of(10, "Returns the sequence then.");
        edges.due("of a new one", Scenes.several(1).add(0, 4), 1);
    }

    private void move() {
        edges.of(11, "`local`: the local hour to which it is moved, 0 to 1439");
        MeetingServer server = Scenes.wide();
        server.move(0, 59, 0);
        edges.due("the first hour", server.begin(2, 0, 59), 0);
        server.move(0, 0, 1439);
        edges.due("the last hour", server.begin(2, 0, 0), 1439);
        lasts("the last hour", server, 2, 1439, 2);
        edges.of(11, "Moves a date; it is still told by its own day.");
        dates("the days", server, 2, 0, "0 3 59");
        edges.due("no date by the day to which it is moved",
                Check.thrownBy(() -> server.begin(2, 0, 1)), "IllegalStateException");
        server.move(0, 3, 60 * 24 - 1);
        edges.due("two dates at one hour", server.begin(2, 0, 3), 1439);
        server.setOffset(0, -12);
        edges.due("by the clock of the zone", server.begin(2, 0, 3), 1451);
        edges.of(11, "Returns the sequence then.");
        edges.due("of a new one", Scenes.several(1).move(0, 3, 82), 1);
    }

    // ---- promises 12 to 14

    private void invite() {
        edges.of(12, "Invites a person, who is left out no more; or leaves a person out, who is not invited any more"
                + " then.");
        MeetingServer server = Scenes.several(1);
        server.invite(0, 0, true);
        server.invite(0, 4, true);
        edges.due("the first and the last person", server.isAsked(0, 0) && server.isAsked(0, 4), true);
        edges.due("nobody else", server.isAsked(0, 1) || server.isAsked(0, 3), false);
        server.invite(0, 4, false);
        edges.due("not invited any more", server.isAsked(0, 4), false);
        edges.due("the other one is", server.isAsked(0, 0), true);
        server.send(0);
        server.deliver(1);
        edges.due("left out", server.sequence(4, 0) == 3 && !server.isThere(4, 0), true);
        server.invite(0, 4, true);
        server.send(0);
        server.deliver(3);
        edges.due("left out no more", server.isAsked(0, 4) && server.isThere(4, 0), true);
        server.invite(0, 1, false);
        edges.due("left out without having been invited", server.isAsked(0, 1), false);
        edges.due("and invited then", server.invite(0, 1, true), 6);
        edges.due("invited", server.isAsked(0, 1), true);
        edges.of(12, "Returns the sequence then.");
        edges.due("of a new one", Scenes.several(1).invite(0, 4, false), 1);
    }

    private void cancel() {
        edges.of(13, "Cancels a meeting, for good.");
        refusedWhenCancelled("time", x -> x.time(0, 3, 10, 2));
        refusedWhenCancelled("repeat", x -> x.repeat(0, 1, 127, 1));
        refusedWhenCancelled("drop", x -> x.drop(0, 3));
        refusedWhenCancelled("add", x -> x.add(0, 20));
        refusedWhenCancelled("move", x -> x.move(0, 3, 82));
        refusedWhenCancelled("invite", x -> x.invite(0, 1, true));
        refusedWhenCancelled("leave out", x -> x.invite(0, 1, false));
        refusedWhenCancelled("cancel", x -> x.cancel(0));
        MeetingServer server = Scenes.wideCancelled();
        edges.due("gone", server.isThere(2, 0), false);
        edges.due("not the other meeting", server.isThere(2, 7), true);
        edges.due("the copies are there", server.isThere(1, 0), true);
        edges.of(13, "Returns the sequence then.");
        edges.due("of a new one", Scenes.several(1).cancel(0), 1);
    }

    private void refusedWhenCancelled(String what, Consumer<MeetingServer> call) {
        edges.badState(what, Scenes::wideCancelled, call);
    }

    private void sendToWhom() {
        edges.of(14, "is left out, or was sent one by this call before, by rising numbers; also if it is cancelled");
        MeetingServer server = Scenes.several(1);
        edges.due("nobody", server.send(0), 0);
        server.invite(0, 4, true);
        server.invite(0, 0, false);
        edges.due("one asked and one left out", server.send(0), 2);
        edges.due("by rising numbers", Look.lines(server, 0), "request ca 0 2, request ce 0 2");
        server.deliver(1);
        server.delegate(4, 0, 3);
        edges.due("not one to whom only delegate() has sent", server.send(0), 2);
        server.deliver(2);
        edges.due("the delegate who is asked", server.send(0), 3);
        server.deliver(server.answer(4, 0, NONE, ACCEPTED));
        edges.due("no delegate any more", server.isAsked(0, 3), false);
        edges.due("sent one before", server.send(0), 3);
        server.cancel(0);
        edges.due("cancelled", server.send(0), 3);
        edges.due("the version of now", Look.lines(server, 13), "request ca 0 3, request cd 0 3, request ce 0 3");
    }

    private void sendHowMany() {
        edges.of(14, "Returns how many.");
        edges.due("none", Scenes.several(1).send(0), 0);
        edges.due("all others", Scenes.wide().send(7), 4);
        MeetingServer full = Scenes.wideWithMessages(146);
        edges.due("the last ones that there is room for", full.send(0), 4);
        edges.due("150", full.messages(), 150);
        edges.due("none where there is no room", full.send(1), 0);
        MeetingServer short1 = Scenes.wideWithMessages(147);
        edges.due("one too many", Check.thrownBy(() -> short1.send(0)), "IllegalStateException");
        edges.due("none was made", short1.messages(), 147);
        short1.invite(1, 1, true);
        edges.due("who was not sent one by a call that threw", short1.send(1), 1);
    }

    // ---- promises 15 and 16

    /** wide(); person 1 has proposed the first local hour for the day 59, by 8, and the last for the day 0, by 9. */
    private static MeetingServer proposed() {
        MeetingServer server = Scenes.wide();
        server.propose(1, 0, 59, 0);
        server.propose(1, 0, 0, 1439);
        server.deliver(8);
        server.deliver(9);
        return server;
    }

    private void take() {
        edges.of(15, "Takes a proposal: the date is moved there, as by move().");
        MeetingServer server = proposed();
        int mark = server.mark(2);
        server.take(8);
        edges.due("the first hour", server.begin(2, 0, 59), 0);
        edges.due("the other proposal stays open", Look.proposals(server, 0), "9");
        server.take(9);
        edges.due("the last hour", server.begin(2, 0, 0), 1439);
        dates("the days", server, 2, 0, "0 3 59");
        edges.due("a mark each", server.mark(2), mark + 2);
        edges.due("none is open", server.proposals(0), 0);
        edges.of(15, "Returns the sequence of the meeting then.");
        MeetingServer again = proposed();
        edges.due("of the first one", again.take(9), 7);
        edges.due("of the second one", again.take(8), 8);
        edges.due("a second time", Check.thrownBy(() -> again.take(8)), "IllegalStateException");
    }

    private void refuse() {
        edges.of(16, "Refuses a proposal.");
        MeetingServer server = proposed();
        server.refuse(8);
        edges.due("not open any more", Look.proposals(server, 0), "9");
        edges.due("not moved", server.begin(2, 0, 59), 59 * 24 + 10);
        server.deliver(8);
        edges.due("it does not come again", Look.proposals(server, 0), "9");
        edges.of(16, "Returns how many proposals for this meeting are open then.");
        MeetingServer two = proposed();
        two.propose(1, 7, 3, 5);
        two.deliver(10);
        edges.due("one is left", two.refuse(9), 1);
        edges.due("none is left", two.refuse(8), 0);
        edges.due("of the other meeting", two.refuse(10), 0);
    }
}
