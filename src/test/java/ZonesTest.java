/** Promises 1 to 5. */
public final class ZonesTest {
    private static final Check CHECK = new Check("ZonesTest");

    private ZonesTest() {
    }

    public static void main(String[] args) {
        newObject();
        setOffset();
        setSummer();
        allTimesAreAsTheClocksAreNow();
        summerOf(0, 10, 40);
        summerOf(2, 10, 40);
        summerOf(-5, 0, 1);
        summerOf(12, 0, 60);
        summerOf(-12, 59, 60);
        common();
        local();
        CHECK.end();
    }

    private static void newObject() {
        MeetingServer server = new MeetingServer();
        CHECK.due("1: meetings", server.meetings(), 0);
        CHECK.due("1: messages", server.messages(), 0);
        for (int zone = 0; zone < 3; zone++) {
            for (int hour = -100; hour <= 2000; hour++) {
                CHECK.due("1: local", new MeetingServer().local(zone, hour), hour);
                CHECK.due("1: common", new MeetingServer().common(zone, hour), hour);
            }
            CHECK.due("1: no summer", server.setSummer(zone, 5, 6), MeetingServer.NONE);
            CHECK.due("1: no offset", server.setOffset(zone, 1), 0);
        }
        for (int person = 0; person < 5; person++) {
            CHECK.due("1: mark", server.mark(person), 0);
            CHECK.due("1: changes", server.changes(person, 0), 0);
            CHECK.due("1: rank", server.rank(person, 82), MeetingServer.FREE);
        }
        CHECK.due("1: firstFree", server.firstFree(31, -48, 48), -48);
        CHECK.due("1: objects apart", new MeetingServer().local(0, 0), 0);
    }

    private static void setOffset() {
        MeetingServer server = new MeetingServer();
        CHECK.due("2: first", server.setOffset(1, 5), 0);
        CHECK.due("2: again", server.setOffset(1, -12), 5);
        CHECK.due("2: highest", server.setOffset(1, 12), -12);
        CHECK.due("2: told by the clock", server.local(1, 100), 112);
        CHECK.due("2: zone 0", server.local(0, 100), 100);
        CHECK.due("2: zone 2", server.local(2, 100), 100);
        server.setSummer(1, 3, 9);
        server.setOffset(1, -3);
        CHECK.due("2: the summer stays", server.setSummer(1, 3, 9), 3);
        CHECK.noPlace("2: zone -1", MeetingServer::new, x -> x.setOffset(-1, 0));
        CHECK.noPlace("2: zone 3, ahead of the offset", MeetingServer::new, x -> x.setOffset(3, 13));
        CHECK.badArgument("2: offset 13", MeetingServer::new, x -> x.setOffset(0, 13));
        CHECK.badArgument("2: offset -13", MeetingServer::new, x -> x.setOffset(2, -13));
        CHECK.badArgument("2: offset lowest", MeetingServer::new, x -> x.setOffset(2, Integer.MIN_VALUE));
    }

    private static void setSummer() {
        MeetingServer server = new MeetingServer();
        CHECK.due("3: first", server.setSummer(2, 0, 1), MeetingServer.NONE);
        CHECK.due("3: again", server.setSummer(2, 59, 60), 0);
        CHECK.due("3: none, last below", server.setSummer(2, MeetingServer.NONE, -1000), 59);
        CHECK.due("3: no summer then", server.local(2, 59 * 24 + 20), 59 * 24 + 20);
        CHECK.due("3: none again, last above", server.setSummer(2, MeetingServer.NONE, 1000), MeetingServer.NONE);
        CHECK.due("3: a summer again", server.setSummer(2, 10, 40), MeetingServer.NONE);
        CHECK.due("3: told by the clock", server.local(2, 500), 501);
        CHECK.due("3: zone 0", server.local(0, 500), 500);
        CHECK.due("3: zone 1", server.local(1, 500), 500);
        CHECK.noPlace("3: zone -1", MeetingServer::new, x -> x.setSummer(-1, 3, 4));
        CHECK.noPlace("3: zone 3, ahead of the days", MeetingServer::new, x -> x.setSummer(3, 60, 60));
        CHECK.badArgument("3: first -2", MeetingServer::new, x -> x.setSummer(0, -2, 40));
        CHECK.badArgument("3: first 60", MeetingServer::new, x -> x.setSummer(0, 60, 61));
        CHECK.badArgument("3: last is first", MeetingServer::new, x -> x.setSummer(0, 20, 20));
        CHECK.badArgument("3: last below first", MeetingServer::new, x -> x.setSummer(0, 20, 10));
        CHECK.badArgument("3: last 61", MeetingServer::new, x -> x.setSummer(0, 20, 61));
        CHECK.badArgument("3: last highest", MeetingServer::new, x -> x.setSummer(0, 20, Integer.MAX_VALUE));
    }

    private static void allTimesAreAsTheClocksAreNow() {
        MeetingServer server = Scenes.held();
        int mark = server.mark(0);
        server.setOffset(0, 4);
        CHECK.due("2: the organiser's begin", server.begin(0, 0, 3), 78);
        CHECK.due("2: a copy's begin", server.begin(1, 0, 3), 78);
        server.setSummer(0, 2, 6);
        CHECK.due("3: the organiser's begin", server.begin(0, 0, 3), 77);
        CHECK.due("3: a copy's begin", server.begin(1, 0, 3), 77);
        CHECK.due("3: rank", server.rank(0, 77), MeetingServer.BUSY);
        CHECK.due("2: no mark by clocks", server.mark(0), mark);
        CHECK.due("2: no version by clocks", server.sequence(0, 0), 2);
    }

    /** The hours about both changes of a clock. */
    private static void summerOf(int offset, int first, int last) {
        MeetingServer server = new MeetingServer();
        server.setOffset(1, offset);
        server.setSummer(1, first, last);
        int begin = 24 * first + 2 - offset;
        int end = 24 * last + 2 - offset;
        String what = " with " + offset + ", " + first + ", " + last;
        CHECK.due("5: 1 o'clock ahead" + what, server.local(1, begin - 1), 24 * first + 1);
        CHECK.due("5: 3 o'clock behind it" + what, server.local(1, begin), 24 * first + 3);
        CHECK.due("5: 2 o'clock" + what, server.local(1, end - 1), 24 * last + 2);
        CHECK.due("5: 2 o'clock again" + what, server.local(1, end), 24 * last + 2);
        CHECK.due("5: 3 o'clock" + what, server.local(1, end + 1), 24 * last + 3);
        CHECK.due("4: ahead of summer" + what, server.common(1, 24 * first + 1), begin - 1);
        CHECK.due("4: one that does not come" + what, server.common(1, 24 * first + 2), begin);
        CHECK.due("4: first of summer" + what, server.common(1, 24 * first + 3), begin);
        CHECK.due("4: second of summer" + what, server.common(1, 24 * first + 4), begin + 1);
        CHECK.due("4: ahead of the last" + what, server.common(1, 24 * last + 1), end - 2);
        CHECK.due("4: the earlier of two" + what, server.common(1, 24 * last + 2), end - 1);
        CHECK.due("4: behind summer" + what, server.common(1, 24 * last + 3), end + 1);
    }

    private static void common() {
        MeetingServer server = new MeetingServer();
        server.setOffset(0, 3);
        CHECK.due("4: lowest", server.common(0, -100), -103);
        CHECK.due("4: highest", server.common(0, 2000), 1997);
        CHECK.due("4: zone 2", server.common(2, 2000), 2000);
        CHECK.noPlace("4: zone -1", MeetingServer::new, x -> x.common(-1, 0));
        CHECK.noPlace("4: zone 3, ahead of the hour", MeetingServer::new, x -> x.common(3, 2001));
        CHECK.badArgument("4: -101", MeetingServer::new, x -> x.common(0, -101));
        CHECK.badArgument("4: 2001", MeetingServer::new, x -> x.common(0, 2001));
    }

    private static void local() {
        MeetingServer server = new MeetingServer();
        server.setOffset(0, 3);
        CHECK.due("5: lowest", server.local(0, -100), -97);
        CHECK.due("5: highest", server.local(0, 2000), 2003);
        CHECK.due("5: zone 2", server.local(2, -100), -100);
        CHECK.noPlace("5: zone -1", MeetingServer::new, x -> x.local(-1, 0));
        CHECK.noPlace("5: zone 3, ahead of the hour", MeetingServer::new, x -> x.local(3, 2001));
        CHECK.badArgument("5: -101", MeetingServer::new, x -> x.local(0, -101));
        CHECK.badArgument("5: 2001", MeetingServer::new, x -> x.local(0, 2001));
    }
}
