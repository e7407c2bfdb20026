/** Objects that tests begin with. */
final class Scenes {
    private Scenes() {
    }

    /** Meeting 0: organiser 0, zone 0, day 3 at 10 o'clock, which is the common hour 82, 2 hours long. */
    static MeetingServer made() {
        MeetingServer server = new MeetingServer();
        server.make(0, 0, 3, 10, 2);
        return server;
    }

    /** The same, and 1 and 2 are invited: sequence 2. */
    static MeetingServer invited() {
        MeetingServer server = made();
        server.invite(0, 1, true);
        server.invite(0, 2, true);
        return server;
    }

    /** The same, sent: message 0 goes to 1, message 1 to 2. */
    static MeetingServer sent() {
        MeetingServer server = invited();
        server.send(0);
        return server;
    }

    /** The same, and both have come. */
    static MeetingServer held() {
        MeetingServer server = sent();
        server.deliver(0);
        server.deliver(1);
        return server;
    }

    /** The same, and it is cancelled then: sequence 3. */
    static MeetingServer cancelled() {
        MeetingServer server = held();
        server.cancel(0);
        return server;
    }

    /** Meeting 0 of person 0 on the days 2, 4, 6, 8 and 10 at 9 o'clock, an hour long: sequence 1. */
    static MeetingServer repeated() {
        MeetingServer server = new MeetingServer();
        server.make(0, 0, 2, 9, 1);
        server.repeat(0, 2, 127, 5);
        return server;
    }

    /** The same with a copy at person 1, who is invited: sequence 2; message 0 was the request. */
    static MeetingServer repeatedHeld() {
        MeetingServer server = repeated();
        server.invite(0, 1, true);
        server.send(0);
        server.deliver(0);
        return server;
    }

    /** The same, and the person 1 has accepted for all, by message 1, which has come. */
    static MeetingServer accepted() {
        MeetingServer server = repeatedHeld();
        server.answer(1, 0, MeetingServer.NONE, MeetingServer.ACCEPTED);
        server.deliver(1);
        return server;
    }

    /** As many meetings as there can be, all of person 0. */
    static MeetingServer full() {
        MeetingServer server = new MeetingServer();
        for (int meeting = 0; meeting < 8; meeting++) {
            server.make(0, 0, meeting, 10, 1);
        }
        return server;
    }

    /** held(), with replies behind it that make up a number of messages. */
    static MeetingServer heldWithMessages(int count) {
        MeetingServer server = held();
        fill(server, count);
        return server;
    }

    /** Person 1, who has a copy of the meeting 0, makes replies for it up to a number of messages. */
    static void fill(MeetingServer server, int count) {
        for (int message = server.messages(); message < count; message++) {
            server.answer(1, 0, MeetingServer.NONE, MeetingServer.TENTATIVE);
        }
    }

    /** Zones with different clocks, one of them without a summer. */
    static MeetingServer clocks() {
        MeetingServer server = new MeetingServer();
        server.setOffset(0, 1);
        server.setSummer(0, 0, 60);
        server.setOffset(1, -2);
        server.setSummer(1, 5, 20);
        server.setOffset(2, 3);
        return server;
    }

    /** Meetings of person 2, in zone 0, on the day 3 at 10 o'clock, which is the common hour 82, 2 hours long. */
    static MeetingServer several(int count) {
        MeetingServer server = new MeetingServer();
        for (int meeting = 0; meeting < count; meeting++) {
            server.make(2, 0, 3, 10, 2);
        }
        return server;
    }

    static MeetingServer eight() {
        return several(8);
    }

    /**
     * Eight meetings of person 2; the meetings 0 and 7 have the dates 0, 3 and 59, the sequence 6, and copies at
     * all others, who are invited: the messages 0 to 3 were the requests of the meeting 0, 4 to 7 of the meeting 7.
     */
    static MeetingServer wide() {
        MeetingServer server = eight();
        for (int meeting = 0; meeting < 8; meeting += 7) {
            server.add(meeting, 0);
            server.add(meeting, 59);
            for (int person = 0; person < 5; person++) {
                if (person != 2) {
                    server.invite(meeting, person, true);
                }
            }
            server.send(meeting);
        }
        for (int message = 0; message < 8; message++) {
            server.deliver(message);
        }
        return server;
    }

    /** wide(), and the meeting 0 is cancelled: sequence 7; those who have copies have not heard of it. */
    static MeetingServer wideCancelled() {
        MeetingServer server = wide();
        server.cancel(0);
        return server;
    }

    /** The same, and person 1 has a cancelled copy, by message 9. */
    static MeetingServer wideCancelledCopy() {
        MeetingServer server = wideCancelled();
        server.send(0);
        server.deliver(9);
        return server;
    }

    /** wide(), and person 1 has a copy of the meeting 0 in which this person is left out, by message 9. */
    static MeetingServer wideLeftOut() {
        MeetingServer server = wide();
        server.invite(0, 1, false);
        server.send(0);
        server.deliver(9);
        return server;
    }

    /** wide(), and the day 20 is a date of the meeting 0 that the copies do not have; the day 3 is none any more. */
    static MeetingServer wideChanged() {
        MeetingServer server = wide();
        server.add(0, 20);
        server.drop(0, 3);
        return server;
    }

    /** wide(), with replies of person 1 behind it that make up a number of messages. */
    static MeetingServer wideWithMessages(int count) {
        MeetingServer server = wide();
        fill(server, count);
        return server;
    }

    /** Eight meetings of person 2, of which the first four are cancelled: the floor is 9, the mark 12. */
    static MeetingServer forgetful() {
        MeetingServer server = eight();
        for (int meeting = 0; meeting < 4; meeting++) {
            server.cancel(meeting);
        }
        return server;
    }
}
