/** Objects that tests begin with. */
final class Scenes {
    private Scenes() {
    }

    /** Meeting 0: organiser 0, zone 0, day 3 at 10 o'clock, which is the common hour 82, 2 hours long. */
    static MeetingServer made() {
        MeetingServer server = new MeetingServer();
        server.make(0, 0, 3, 10, 2);
        return server;
    }

    /** The same, and 1 and 2 are invited: sequence 2. */
    static MeetingServer invited() {
        MeetingServer server = made();
        server.invite(0, 1, true);
        server.invite(0, 2, true);
        return server;
    }

    /** The same, sent: message 0 goes to 1, message 1 to 2. */
    static MeetingServer sent() {
        MeetingServer server = invited();
        server.send(0);
        return server;
    }

    /** The same, and both have come. */
    static MeetingServer held() {
        MeetingServer server = sent();
        server.deliver(0);
        server.deliver(1);
        return server;
    }

    /** The same, and it is cancelled then: sequence 3. */
    static MeetingServer cancelled() {
        MeetingServer server = held();
        server.cancel(0);
        return server;
    }

    /** Meeting 0 of person 0 on the days 2, 4, 6, 8 and 10 at 9 o'clock, an hour long: sequence 1. */
    static MeetingServer repeated() {
        MeetingServer server = new MeetingServer();
        server.make(0, 0, 2, 9, 1);
        server.repeat(0, 2, 127, 5);
        return server;
    }

    /** The same with a copy at person 1, who is invited: sequence 2; message 0 was the request. */
    static MeetingServer repeatedHeld() {
        MeetingServer server = repeated();
        server.invite(0, 1, true);
        server.send(0);
        server.deliver(0);
        return server;
    }

    /** The same, and the person 1 has accepted for all, by message 1, which has come. */
    static MeetingServer accepted() {
        MeetingServer server = repeatedHeld();
        server.answer(1, 0, MeetingServer.NONE, MeetingServer.ACCEPTED);
        server.deliver(1);
        return server;
    }

    /** As many meetings as there can be, all of person 0. */
    static MeetingServer full() {
        MeetingServer server = new MeetingServer();
        for (int meeting = 0; meeting < 8; meeting++) {
            server.make(0, 0, meeting, 10, 1);
        }
        return server;
    }

    /** held(), with replies behind it that make up a number of messages. */
    static MeetingServer heldWithMessages(int count) {
        MeetingServer server = held();
        while (server.messages() < count) {
            server.answer(1, 0, MeetingServer.NONE, MeetingServer.TENTATIVE);
        }
        return server;
    }
}
