/** Promises 39 to 41. */
public final class BusyTest {
    private static final Check CHECK = new Check("BusyTest");
    private static final int NONE = MeetingServer.NONE;
    private static final int ACCEPTED = MeetingServer.ACCEPTED;
    private static final int TENTATIVE = MeetingServer.TENTATIVE;
    private static final int DECLINED = MeetingServer.DECLINED;
    private static final int FREE = MeetingServer.FREE;
    private static final int MAYBE = MeetingServer.MAYBE;
    private static final int BUSY = MeetingServer.BUSY;

    private BusyTest() {
    }

    public static void main(String[] args) {
        rankOfOrganiser();
        rankByOwnAnswer();
        rankByOwnCopy();
        rankOfSeveralMeetings();
        rankRefuses();
        freeAboutOneTime();
        freeOfWhom();
        freeBehindMany();
        freeAtTheEdges();
        freeRefuses();
        CHECK.end();
    }

    /** What a person is at the hours from one on, a digit each. */
    private static String ranks(MeetingServer server, int person, int from, int count) {
        StringBuilder text = new StringBuilder();
        for (int hour = from; hour < from + count; hour++) {
            text.append(server.rank(person, hour));
        }
        return text.toString();
    }

    // ---- 39

    private static void rankOfOrganiser() {
        MeetingServer server = Scenes.made();
        CHECK.due("39: a date", ranks(server, 0, 80, 6), "002200");
        CHECK.due("39: others", ranks(server, 1, 80, 6), "000000");
        server.cancel(0);
        CHECK.due("39: cancelled", ranks(server, 0, 80, 6), "000000");
        MeetingServer summer = new MeetingServer();
        summer.setSummer(0, 10, 12);
        summer.make(0, 0, 10, 1, 3);
        CHECK.due("39: common hours while the clock goes ahead", ranks(summer, 0, 240, 6), "022200");
        summer.time(0, 12, 1, 3);
        CHECK.due("39: common hours while it goes back", ranks(summer, 0, 287, 6), "022200");
        MeetingServer several = Scenes.repeated();
        CHECK.due("39: of several dates", ranks(several, 0, 57, 1) + ranks(several, 0, 10 * 24 + 9, 1), "22");
        several.move(0, 4, 58);
        CHECK.due("39: two dates side by side", ranks(several, 0, 56, 4), "0220");
        CHECK.due("39: lowest hour", several.rank(0, -48), FREE);
        CHECK.due("39: highest hour", several.rank(0, 1600), FREE);
    }

    private static void rankByOwnAnswer() {
        MeetingServer server = Scenes.repeatedHeld();
        CHECK.due("39: needed", ranks(server, 1, 57, 2), "00");
        server.answer(1, 0, NONE, TENTATIVE);
        CHECK.due("39: tentative", ranks(server, 1, 56, 3), "010");
        server.answer(1, 0, 2, ACCEPTED);
        CHECK.due("39: accepted, not come", ranks(server, 1, 56, 3), "020");
        CHECK.due("39: another date", ranks(server, 1, 105, 2), "10");
        server.answer(1, 0, 2, DECLINED);
        CHECK.due("39: declined", ranks(server, 1, 56, 3), "000");
        CHECK.due("39: the organiser all the same", ranks(server, 0, 56, 3), "020");
        server.delegate(1, 0, 3);
        CHECK.due("39: delegated", ranks(server, 1, 105, 2), "00");
    }

    private static void rankByOwnCopy() {
        MeetingServer server = Scenes.repeatedHeld();
        server.answer(1, 0, NONE, ACCEPTED);
        server.move(0, 4, 300);
        CHECK.due("39: the copy's hour", ranks(server, 1, 105, 1) + ranks(server, 1, 300, 1), "20");
        server.send(0);
        server.deliver(2);
        CHECK.due("39: by the stand of the copy", ranks(server, 1, 105, 1) + ranks(server, 1, 300, 1), "00");
        server.answer(1, 0, 4, ACCEPTED);
        CHECK.due("39: answered again", ranks(server, 1, 300, 1), "2");
        server.cancel(0);
        CHECK.due("39: cancelled, but not in the copy", ranks(server, 1, 300, 1), "2");
        server.send(0);
        server.deliver(4);
        CHECK.due("39: in the copy", ranks(server, 1, 300, 1), "0");
        MeetingServer left = Scenes.held();
        left.answer(1, 0, NONE, ACCEPTED);
        left.invite(0, 1, false);
        CHECK.due("39: left out, but not in the copy", ranks(left, 1, 82, 1), "2");
        left.send(0);
        left.deliver(3);
        CHECK.due("39: left out in the copy", ranks(left, 1, 82, 1), "0");
    }

    /** held(), and a meeting 1 of person 2 at 83 to 84, to which person 1 is invited. */
    private static MeetingServer two() {
        MeetingServer server = Scenes.held();
        server.make(2, 0, 3, 11, 2);
        server.invite(1, 1, true);
        server.send(1);
        server.deliver(2);
        return server;
    }

    private static void rankOfSeveralMeetings() {
        MeetingServer server = two();
        server.answer(1, 0, NONE, ACCEPTED);
        server.answer(1, 1, NONE, TENTATIVE);
        CHECK.due("39: the greatest, of the first", ranks(server, 1, 81, 5), "02210");
        server.answer(1, 0, NONE, TENTATIVE);
        server.answer(1, 1, NONE, ACCEPTED);
        CHECK.due("39: the greatest, of the last", ranks(server, 1, 81, 5), "01220");
        server.answer(1, 0, NONE, DECLINED);
        CHECK.due("39: of a meeting declined and one not", ranks(server, 1, 81, 5), "00220");
        CHECK.due("39: an organiser who is asked by another one", ranks(server, 2, 81, 5), "00220");
    }

    private static void rankRefuses() {
        CHECK.noPlace("39: person -1", Scenes::held, x -> x.rank(-1, 82));
        CHECK.noPlace("39: person 5, ahead of the hour", Scenes::held, x -> x.rank(5, 1601));
        CHECK.badArgument("39: hour -49", Scenes::held, x -> x.rank(0, -49));
        CHECK.badArgument("39: hour 1601", Scenes::held, x -> x.rank(0, 1601));
    }

    // ---- 40 and 41

    private static void free(String what, MeetingServer server, int people, int[] fromAndLength, int want) {
        int from = fromAndLength[0];
        int length = fromAndLength[1];
        CHECK.due("40: " + what, server.firstFree(people, from, length), want);
        CHECK.due("41: " + what, server.firstFreeByHours(people, from, length), want);
    }

    private static int[] at(int from, int length) {
        return new int[] {from, length};
    }

    private static void freeAboutOneTime() {
        MeetingServer server = Scenes.made();
        free("up to it", server, 1, at(80, 2), 80);
        free("into it", server, 1, at(80, 3), 84);
        free("over it", server, 1, at(70, 48), 84);
        free("at it", server, 1, at(82, 1), 84);
        free("in it", server, 1, at(83, 1), 84);
        free("behind it", server, 1, at(84, 1), 84);
        free("far behind it", server, 1, at(100, 48), 100);
        free("far ahead of it", server, 1, at(-48, 48), -48);
        server.cancel(0);
        free("cancelled", server, 1, at(82, 1), 82);
    }

    private static void freeOfWhom() {
        MeetingServer server = two();
        server.answer(1, 0, NONE, TENTATIVE);
        free("nobody of the meetings", server, 8 + 16, at(82, 4), 82);
        free("one who may be", server, 2, at(82, 4), 82);
        free("the organiser", server, 1, at(82, 1), 84);
        free("another organiser", server, 4, at(82, 1), 82);
        free("another organiser, later", server, 4, at(82, 2), 85);
        free("both", server, 5, at(81, 2), 85);
        free("all", server, 31, at(81, 2), 85);
        free("all, ahead", server, 31, at(81, 1), 81);
        server.answer(1, 0, NONE, ACCEPTED);
        free("one who has accepted, not come", server, 2, at(82, 4), 84);
        server.answer(1, 0, NONE, DECLINED);
        free("one who has declined", server, 2, at(82, 4), 82);
        MeetingServer last = new MeetingServer();
        last.make(4, 0, 0, 0, 5);
        free("the person 4", last, 16, at(0, 1), 5);
        free("all but the person 4", last, 15, at(0, 1), 0);
    }

    private static void freeBehindMany() {
        MeetingServer server = Scenes.repeated();
        server.move(0, 4, 60);
        server.move(0, 6, 62);
        free("a gap that fits", server, 1, at(57, 2), 58);
        free("gaps that do not fit", server, 1, at(57, 3), 63);
        free("one hour between", server, 1, at(60, 1), 61);
        server.make(1, 0, 2, 12, 20);
        free("a short one in a long one", server, 3, at(57, 2), 58);
        free("behind the long one", server, 3, at(57, 3), 80);
        free("in the long one", server, 3, at(62, 1), 80);
        server.make(0, 0, 3, 8, 1);
        free("one that begins where the long one ends", server, 3, at(62, 1), 81);
        MeetingServer days = new MeetingServer();
        days.make(3, 0, 0, 0, 23);
        days.repeat(0, 1, 127, 10);
        for (int day = 10; day < 60; day++) {
            days.add(0, day);
        }
        free("an hour of each day", days, 8, at(0, 1), 23);
        free("no two hours of any day", days, 8, at(0, 2), 59 * 24 + 23);
    }

    private static void freeAtTheEdges() {
        MeetingServer server = new MeetingServer();
        server.setOffset(0, 12);
        server.make(0, 0, 0, 0, 1);
        free("an hour below 0", server, 1, at(-12, 1), -11);
        free("up to it", server, 1, at(-48, 36), -48);
        free("into it", server, 1, at(-48, 37), -11);
        server.setOffset(0, -12);
        server.time(0, 59, 23, 23);
        free("the last date", server, 1, at(1451, 1), 1474);
        free("ahead of the last date", server, 1, at(1403, 48), 1403);
        free("into the last date", server, 1, at(1404, 48), 1474);
        free("behind the last date", server, 1, at(1474, 48), 1474);
        free("the last hour", server, 31, at(1500, 48), 1500);
        free("a new object", new MeetingServer(), 31, at(1500, 1), 1500);
    }

    private static void freeRefuses() {
        CHECK.badArgument("40: people 0", Scenes::held, x -> x.firstFree(0, 0, 1));
        CHECK.badArgument("40: people 32", Scenes::held, x -> x.firstFree(32, 0, 1));
        CHECK.badArgument("40: people -1", Scenes::held, x -> x.firstFree(-1, 0, 1));
        CHECK.badArgument("40: from -49", Scenes::held, x -> x.firstFree(1, -49, 1));
        CHECK.badArgument("40: from 1501", Scenes::held, x -> x.firstFree(1, 1501, 1));
        CHECK.badArgument("40: length 0", Scenes::held, x -> x.firstFree(1, 0, 0));
        CHECK.badArgument("40: length 49", Scenes::held, x -> x.firstFree(1, 0, 49));
        CHECK.badArgument("41: people 0", Scenes::held, x -> x.firstFreeByHours(0, 0, 1));
        CHECK.badArgument("41: people 32", Scenes::held, x -> x.firstFreeByHours(32, 0, 1));
        CHECK.badArgument("41: people -1", Scenes::held, x -> x.firstFreeByHours(-1, 0, 1));
        CHECK.badArgument("41: from -49", Scenes::held, x -> x.firstFreeByHours(1, -49, 1));
        CHECK.badArgument("41: from 1501", Scenes::held, x -> x.firstFreeByHours(1, 1501, 1));
        CHECK.badArgument("41: length 0", Scenes::held, x -> x.firstFreeByHours(1, 0, 0));
        CHECK.badArgument("41: length 49", Scenes::held, x -> x.firstFreeByHours(1, 0, 49));
    }
}
