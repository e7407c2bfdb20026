/** The sentences of 'Busy times', and of the promises 39 to 41. */
final class EdgesOfBusyTimes {
    private static final String CHAPTER = "Busy times";
    private static final int NONE = MeetingServer.NONE;
    private static final int ACCEPTED = MeetingServer.ACCEPTED;
    private static final int TENTATIVE = MeetingServer.TENTATIVE;
    private static final int DECLINED = MeetingServer.DECLINED;
    private static final int FREE = MeetingServer.FREE;
    private static final int MAYBE = MeetingServer.MAYBE;
    private static final int BUSY = MeetingServer.BUSY;

    private final Edges edges;

    EdgesOfBusyTimes(Edges edges) {
        this.edges = edges;
    }

    void run() {
        hoursOfADate();
        byTheOwnAnswer();
        severalMeetingsAtOneHour();
        cancelled();
        rank();
        freeAtTheEndsOfTheRanges();
        freeAboutABusyTime();
        freeBehindSeveral();
        freeOfWhom();
    }

    /** What a person is at the hours from one on, a digit each. */
    private void ranks(String what, MeetingServer server, int person, int from, String want) {
        StringBuilder text = new StringBuilder();
        for (int hour = from; hour < from + want.length(); hour++) {
            text.append(server.rank(person, hour));
        }
        edges.due(what, text.toString(), want);
    }

    private void free(String what, MeetingServer server, int people, int from, int length, int want) {
        edges.of(40, "Returns the hour.");
        edges.due(what, server.firstFree(people, from, length), want);
        edges.of(41, "Returns the hour.");
        edges.due(what, server.firstFreeByHours(people, from, length), want);
    }

    private void hoursOfADate() {
        edges.of(CHAPTER, "In the hours of a date (as many common hours as the length, from that at which it begins) the"
                + " organiser is BUSY");
        MeetingServer server = new MeetingServer();
        server.make(0, 1, 10, 1, 1);
        ranks("the shortest", server, 0, 240, "020");
        server.time(0, 10, 1, 23);
        ranks("the longest", server, 0, 240, "0222222222222222222222220");
        server.setSummer(1, 10, 12);
        server.time(0, 10, 1, 3);
        ranks("common hours while the clock goes ahead", server, 0, 240, "022200");
        server.time(0, 12, 1, 3);
        ranks("common hours while it goes back", server, 0, 287, "022200");
        server.time(0, 10, 2, 1);
        ranks("at an hour that does not come", server, 0, 241, "020");
        server.time(0, 12, 2, 1);
        ranks("at an hour that comes twice", server, 0, 288, "0200");
        server.repeat(0, 1, 127, 2);
        server.move(0, 13, 12 * 24 + 3);
        ranks("two dates side by side, in local hours", server, 0, 288, "02020");
        server.move(0, 13, 12 * 24 + 2);
        ranks("two dates at one hour", server, 0, 288, "0200");
        server.drop(0, 12);
        server.drop(0, 13);
        ranks("no date", server, 0, 288, "0000");
    }

    private void byTheOwnAnswer() {
        edges.of(CHAPTER, "a person whose copy is there is so by their own answer for it: ACCEPTED is BUSY, TENTATIVE is"
                + " MAYBE, any other is FREE");
        MeetingServer server = Scenes.wide();
        ranks("NEEDED", server, 1, 81, "0000");
        server.answer(1, 0, 3, TENTATIVE);
        ranks("TENTATIVE", server, 1, 81, "0110");
        server.answer(1, 0, 3, ACCEPTED);
        ranks("ACCEPTED", server, 1, 81, "0220");
        ranks("another date", server, 1, 9, "0000");
        server.answer(1, 0, 3, DECLINED);
        ranks("DECLINED", server, 1, 81, "0000");
        server.answer(1, 0, NONE, ACCEPTED);
        ranks("for all", server, 1, 9, "0220");
        server.move(0, 3, 300);
        ranks("by the copy", server, 1, 81, "0220");
        server.cancel(0);
        ranks("by a copy of one that is cancelled", server, 1, 81, "0220");
        server.delegate(1, 0, 3);
        ranks("DELEGATED", server, 1, 81, "0000");
        MeetingServer left = Scenes.wide();
        left.answer(1, 0, NONE, ACCEPTED);
        left.invite(0, 1, false);
        ranks("left out, but not in the copy", left, 1, 81, "0220");
        left.send(0);
        left.deliver(10);
        ranks("left out in the copy", left, 1, 81, "0000");
        MeetingServer moved = Scenes.wide();
        moved.answer(1, 0, NONE, ACCEPTED);
        moved.move(0, 3, 90);
        moved.send(0);
        moved.deliver(10);
        ranks("a copy with a greater stand", moved, 1, 81, "000000000000");
        moved.answer(1, 0, 3, ACCEPTED);
        ranks("answered again", moved, 1, 89, "0220");
        MeetingServer cancelled = Scenes.wide();
        cancelled.answer(1, 0, NONE, ACCEPTED);
        cancelled.cancel(0);
        cancelled.send(0);
        cancelled.deliver(10);
        ranks("a cancelled copy", cancelled, 1, 81, "0000");
    }

    /** held(), and a meeting 1 of person 2 from 83 to 84, to which person 1 is invited, with a copy. */
    private static MeetingServer overlapping() {
        MeetingServer server = Scenes.held();
        server.make(2, 0, 3, 11, 2);
        server.invite(1, 1, true);
        server.send(1);
        server.deliver(2);
        return server;
    }

    private void severalMeetingsAtOneHour() {
        edges.of(CHAPTER, "Of several meetings the greatest counts; otherwise a person is FREE.");
        MeetingServer server = overlapping();
        server.answer(1, 0, NONE, ACCEPTED);
        server.answer(1, 1, NONE, TENTATIVE);
        ranks("BUSY by the first, MAYBE by the last", server, 1, 81, "02210");
        server.answer(1, 0, NONE, TENTATIVE);
        ranks("MAYBE by both", server, 1, 81, "01110");
        server.answer(1, 1, NONE, ACCEPTED);
        ranks("MAYBE by the first, BUSY by the last", server, 1, 81, "01220");
        server.answer(1, 0, NONE, DECLINED);
        ranks("FREE by the first", server, 1, 81, "00220");
        server.answer(2, 0, NONE, ACCEPTED);
        ranks("the organiser of one, asked by the other", server, 2, 81, "02220");
        MeetingServer eight = Scenes.eight();
        for (int meeting = 0; meeting < 7; meeting++) {
            eight.cancel(meeting);
        }
        ranks("the last of eight at one hour", eight, 2, 81, "0220");
        eight.cancel(7);
        ranks("none of eight", eight, 2, 81, "0000");
        ranks("one who has no meeting", eight, 0, 81, "0000");
    }

    private void cancelled() {
        edges.of(CHAPTER, "A cancelled meeting matters to the organiser no more.");
        MeetingServer server = Scenes.wide();
        server.cancel(0);
        ranks("another meeting does", server, 2, 81, "0220");
        MeetingServer one = Scenes.several(1);
        one.cancel(0);
        ranks("cancelled", one, 2, 81, "0000");
        edges.due("free", one.firstFree(4, 82, 1), 82);
        edges.due("free by hours", one.firstFreeByHours(4, 82, 1), 82);
    }

    private void rank() {
        edges.of(39, "Returns what a person is at an hour.");
        MeetingServer server = new MeetingServer();
        server.setOffset(0, 12);
        server.setSummer(0, 0, 60);
        server.make(0, 0, 0, 3, 1);
        ranks("ahead of the hour 0", server, 0, -12, "00200");
        server.setOffset(0, -12);
        server.time(0, 59, 23, 23);
        ranks("the last date of all", server, 0, 1449, "0222");
        ranks("its end", server, 0, 1471, "2200");
        edges.due("the first hour that is allowed", server.rank(0, -48), FREE);
        edges.due("the last hour that is allowed", server.rank(0, 1600), FREE);
        edges.of(39, "Returns FREE, MAYBE or BUSY.");
        MeetingServer two = overlapping();
        two.answer(1, 0, NONE, TENTATIVE);
        edges.due("FREE", two.rank(1, 81), FREE);
        edges.due("MAYBE", two.rank(1, 82), MAYBE);
        edges.due("BUSY", two.rank(0, 82), BUSY);
        edges.of("Exceptions", "`FREE = 0, MAYBE = 1, BUSY = 2`: What a person is at an hour.");
        edges.due("the numbers", "" + FREE + MAYBE + BUSY, "012");
    }

    private void freeAtTheEndsOfTheRanges() {
        MeetingServer none = new MeetingServer();
        free("the first hour", none, 31, -48, 1, -48);
        free("the first hour, the greatest length", none, 31, -48, 48, -48);
        free("the last hour", none, 31, 1500, 48, 1500);
        MeetingServer server = new MeetingServer();
        server.setOffset(0, 12);
        server.make(4, 0, 0, 0, 1);
        free("up to an hour ahead of the hour 0", server, 16, -48, 36, -48);
        free("an hour more", server, 16, -48, 37, -11);
        server.setOffset(0, -12);
        server.time(0, 59, 23, 23);
        free("up to the last date", server, 16, 1403, 48, 1403);
        free("an hour later", server, 16, 1404, 48, 1474);
        free("its last hour", server, 16, 1473, 1, 1474);
        free("behind the last date", server, 16, 1474, 48, 1474);
    }

    private void freeAboutABusyTime() {
        edges.of(40, "Returns the first common hour from one on, from which on none of some people is BUSY for a length,"
                + " found by going behind times that are busy.");
        MeetingServer server = Scenes.made();
        edges.due("up to it", server.firstFree(1, 80, 2), 80);
        edges.due("an hour into it", server.firstFree(1, 80, 3), 84);
        edges.due("from its first hour", server.firstFree(1, 82, 1), 84);
        edges.due("from its last hour", server.firstFree(1, 83, 1), 84);
        edges.due("from behind it", server.firstFree(1, 84, 1), 84);
        edges.due("over it", server.firstFree(1, 60, 48), 84);
        edges.of(41, "Returns the same, found by all hours.");
        edges.due("up to it", server.firstFreeByHours(1, 80, 2), 80);
        edges.due("an hour into it", server.firstFreeByHours(1, 80, 3), 84);
        edges.due("from its first hour", server.firstFreeByHours(1, 82, 1), 84);
        edges.due("from its last hour", server.firstFreeByHours(1, 83, 1), 84);
        edges.due("from behind it", server.firstFreeByHours(1, 84, 1), 84);
        edges.due("over it", server.firstFreeByHours(1, 60, 48), 84);
    }

    private void freeBehindSeveral() {
        MeetingServer server = Scenes.repeated();
        server.move(0, 4, 60);
        server.move(0, 6, 62);
        free("a gap that fits", server, 1, 57, 2, 58);
        free("a gap that is an hour too short", server, 1, 57, 3, 63);
        free("a gap of one hour", server, 1, 60, 1, 61);
        server.make(1, 0, 2, 12, 20);
        free("a short one in a long one", server, 3, 57, 3, 80);
        server.make(0, 0, 3, 8, 1);
        free("one that begins where the long one ends", server, 3, 57, 3, 81);
        server.cancel(1);
        free("without the long one", server, 3, 57, 3, 63);
        MeetingServer days = new MeetingServer();
        days.make(3, 0, 0, 0, 23);
        for (int day = 1; day < 60; day++) {
            days.add(0, day);
        }
        free("an hour of each day", days, 8, 0, 1, 23);
        free("no two hours of any day", days, 8, 0, 2, 1439);
        days.make(3, 0, 0, 23, 1);
        for (int day = 1; day < 60; day++) {
            days.add(1, day);
        }
        free("no hour of any day", days, 8, 0, 1, 1440);
        free("no two hours, from the hour ahead", days, 8, -1, 2, 1440);
        free("the hours ahead", days, 8, -48, 48, -48);
        free("an hour more", days, 8, -47, 48, 1440);
    }

    private void freeOfWhom() {
        edges.of(40, "`people`: 1 to 31: 2 to the power of p for each person p");
        MeetingServer server = new MeetingServer();
        for (int person = 0; person < 5; person++) {
            server.make(person, 0, 0, 2 * person, 1);
        }
        for (int person = 0; person < 5; person++) {
            edges.due("the person " + person, server.firstFree(1 << person, 2 * person, 1), 2 * person + 1);
            edges.due("all but this one", server.firstFree(31 - (1 << person), 2 * person, 1), 2 * person);
        }
        edges.due("all", server.firstFree(31, 0, 2), 9);
        edges.of(41, "`people`: 1 to 31: 2 to the power of p for each person p");
        for (int person = 0; person < 5; person++) {
            edges.due("the person " + person, server.firstFreeByHours(1 << person, 2 * person, 1), 2 * person + 1);
            edges.due("all but this one", server.firstFreeByHours(31 - (1 << person), 2 * person, 1), 2 * person);
        }
        edges.due("all", server.firstFreeByHours(31, 0, 2), 9);
        MeetingServer maybe = overlapping();
        maybe.answer(1, 0, NONE, TENTATIVE);
        free("one who may be", maybe, 2, 82, 4, 82);
        maybe.answer(1, 0, NONE, ACCEPTED);
        free("one who is", maybe, 2, 82, 4, 84);
        free("with another one, who is later", maybe, 6, 82, 4, 85);
        maybe.answer(1, 0, NONE, DECLINED);
        free("one who is not", maybe, 2, 82, 4, 82);
    }
}
