/** The sentences of 'Hours and zones', and of the promises 1 to 5. */
final class EdgesOfZones {
    private static final String CHAPTER = "Hours and zones";
    private static final int NONE = MeetingServer.NONE;
    /** Offsets, first and last days of summers at the ends of their ranges. */
    private static final int[][] SUMMERS =
            {{0, 10, 40}, {12, 0, 1}, {-12, 0, 1}, {12, 59, 60}, {-12, 59, 60}, {12, 0, 60}, {-12, 0, 60}, {0, 0, 1}};

    private final Edges edges;

    EdgesOfZones(Edges edges) {
        this.edges = edges;
    }

    void run() {
        aDayHas24Hours();
        zonesApart();
        offsets();
        noSummerAtFirst();
        localHours();
        hoursAheadOfTheDay0();
        summerBeginsAndEnds();
        clockGoesAheadAndBack();
        commonHourOfALocalHour();
        timesAreAsTheClocksAreNow();
        newObject();
        setOffset();
        setSummer();
        common();
        local();
    }

    private static MeetingServer withClock(int zone, int offset, int first, int last) {
        MeetingServer server = new MeetingServer();
        server.setOffset(zone, offset);
        server.setSummer(zone, first, last);
        return server;
    }

    private void aDayHas24Hours() {
        edges.of(CHAPTER, "0 is the first one of the day 0, a day has 24");
        MeetingServer server = new MeetingServer();
        server.make(0, 0, 0, 0, 1);
        server.make(0, 0, 0, 23, 1);
        server.make(0, 0, 1, 0, 1);
        server.make(0, 0, 59, 23, 1);
        edges.due("the first of the day 0", server.begin(0, 0, 0), 0);
        edges.due("the last of the day 0", server.begin(0, 1, 0), 23);
        edges.due("the first of the day 1", server.begin(0, 2, 1), 24);
        edges.due("the last of the day 59", server.begin(0, 3, 59), 1439);
    }

    private void zonesApart() {
        edges.of(CHAPTER, "There are the zones 0 to 2.");
        MeetingServer server = new MeetingServer();
        for (int zone = 0; zone < 3; zone++) {
            server.setOffset(zone, 4 * zone + 1);
            server.setSummer(zone, 10 * zone, 60);
        }
        for (int zone = 0; zone < 3; zone++) {
            edges.due("its own offset " + zone, server.local(zone, -50), 4 * zone - 49);
            edges.due("its own summer " + zone, server.setSummer(zone, NONE, 0), 10 * zone);
        }
        edges.noPlace("zone -1", MeetingServer::new, x -> x.setOffset(-1, 0));
        edges.noPlace("zone 3", MeetingServer::new, x -> x.setOffset(3, 0));
    }

    private void offsets() {
        edges.of(CHAPTER, "how many hours its clock is ahead of the common one, -12 to 12, 0 at first");
        MeetingServer server = new MeetingServer();
        edges.due("at first", server.local(2, 50), 50);
        server.setOffset(2, 12);
        edges.due("the highest", server.local(2, 50), 62);
        server.setOffset(2, -12);
        edges.due("the lowest", server.local(2, 50), 38);
        edges.badArgument("-13", MeetingServer::new, x -> x.setOffset(2, -13));
        edges.badArgument("13", MeetingServer::new, x -> x.setOffset(2, 13));
    }

    private void noSummerAtFirst() {
        edges.of(CHAPTER, "with a first and a last day; at first it has none");
        for (int zone = 0; zone < 3; zone++) {
            MeetingServer server = new MeetingServer();
            for (int day = 0; day <= 60; day++) {
                edges.due("the day " + day, server.local(zone, 24 * day + 2), 24 * day + 2);
            }
            edges.due("none", server.setSummer(zone, 0, 60), NONE);
        }
    }

    private void localHours() {
        edges.of(CHAPTER, "24 times the day and the hour of the day, together");
        MeetingServer server = withClock(0, 5, NONE, 0);
        edges.due("of the same day", server.local(0, 3 * 24 + 18), 3 * 24 + 23);
        edges.due("of the next day", server.local(0, 3 * 24 + 19), 4 * 24);
        edges.due("back", server.common(0, 4 * 24), 3 * 24 + 19);
        server.setOffset(0, -5);
        edges.due("of the day ahead", server.local(0, 3 * 24 + 4), 2 * 24 + 23);
        edges.due("of the day itself", server.local(0, 3 * 24 + 5), 3 * 24);
    }

    private void hoursAheadOfTheDay0() {
        edges.of(CHAPTER, "Local hours are numbers like common hours");
        MeetingServer server = withClock(0, -12, NONE, 0);
        edges.due("local of 0", server.local(0, 0), -12);
        edges.due("the last local one ahead of the day 0", server.local(0, 11), -1);
        edges.due("the local one 0", server.local(0, 12), 0);
        edges.due("common of a local one ahead of the day 0", server.common(0, -1), 11);
        edges.due("the lowest local hour", server.common(0, -100), -88);
        server.setOffset(0, 12);
        edges.due("common of 0", server.common(0, 0), -12);
        edges.due("common of -100", server.common(0, -100), -112);
        edges.due("local of -100", server.local(0, -100), -88);
        server.make(3, 0, 0, 0, 1);
        edges.due("a meeting begins ahead of the hour 0", server.begin(3, 0, 0), -12);
        edges.due("busy there", server.rank(3, -12), MeetingServer.BUSY);
        edges.due("free ahead", server.rank(3, -13), MeetingServer.FREE);
        edges.due("free behind", server.firstFree(8, -12, 1), -11);
        server.setSummer(0, 0, 60);
        server.move(0, 0, 3);
        edges.due("in a summer that begins ahead of the hour 0", server.begin(3, 0, 0), -10);
        server.move(0, 0, 2);
        edges.due("an hour that does not come, ahead of the hour 0", server.begin(3, 0, 0), -10);
        server.move(0, 0, 1);
        edges.due("ahead of that summer", server.begin(3, 0, 0), -11);
    }

    private void summerBeginsAndEnds() {
        edges.of(CHAPTER, "from the common hour at which that is 2 o'clock of its first day, up to, not including,"
                + " the common hour at which that is 2 o'clock of its last day");
        for (int[] summer : SUMMERS) {
            MeetingServer server = withClock(1, summer[0], summer[1], summer[2]);
            int begin = 24 * summer[1] + 2 - summer[0];
            int end = 24 * summer[2] + 2 - summer[0];
            String what = " with the offset " + summer[0] + " from " + summer[1] + " to " + summer[2];
            edges.due("the last hour ahead" + what, server.local(1, begin - 1) - begin + 1 - summer[0], 0);
            edges.due("the first hour" + what, server.local(1, begin) - begin - summer[0], 1);
            edges.due("the last hour" + what, server.local(1, end - 1) - end + 1 - summer[0], 1);
            edges.due("the first hour behind" + what, server.local(1, end) - end - summer[0], 0);
        }
    }

    private void clockGoesAheadAndBack() {
        edges.of(CHAPTER, "So the clock goes from 1 o'clock to 3 on the first day, and 2 o'clock comes twice on the"
                + " last day.");
        for (int[] summer : SUMMERS) {
            MeetingServer server = withClock(1, summer[0], summer[1], summer[2]);
            int begin = 24 * summer[1] + 2 - summer[0];
            int end = 24 * summer[2] + 2 - summer[0];
            String what = " with the offset " + summer[0] + " from " + summer[1] + " to " + summer[2];
            edges.due("1 o'clock" + what, server.local(1, begin - 1), 24 * summer[1] + 1);
            edges.due("3 o'clock" + what, server.local(1, begin), 24 * summer[1] + 3);
            edges.due("2 o'clock" + what, server.local(1, end - 1), 24 * summer[2] + 2);
            edges.due("2 o'clock again" + what, server.local(1, end), 24 * summer[2] + 2);
            edges.due("3 o'clock of the last day" + what, server.local(1, end + 1), 24 * summer[2] + 3);
        }
    }

    private void commonHourOfALocalHour() {
        for (int[] summer : SUMMERS) {
            MeetingServer server = withClock(1, summer[0], summer[1], summer[2]);
            int begin = 24 * summer[1] + 2 - summer[0];
            int end = 24 * summer[2] + 2 - summer[0];
            String what = " with the offset " + summer[0] + " from " + summer[1] + " to " + summer[2];
            edges.of(CHAPTER, "The common hour of a local hour is the one that has it");
            for (int hour = begin - 4; hour < begin + 4; hour++) {
                edges.due("back from " + hour + what, server.common(1, server.local(1, hour)), hour);
            }
            edges.due("ahead of the two" + what, server.common(1, 24 * summer[2] + 1), end - 2);
            edges.due("behind the two" + what, server.common(1, 24 * summer[2] + 3), end + 1);
            edges.of(CHAPTER, "the earlier one of two");
            edges.due("2 o'clock of the last day" + what, server.common(1, 24 * summer[2] + 2), end - 1);
            edges.of(CHAPTER, "of one that does not come (2 o'clock of the first day) that at which the clock goes"
                    + " ahead");
            edges.due("2 o'clock of the first day" + what, server.common(1, 24 * summer[1] + 2), begin);
        }
    }

    private void timesAreAsTheClocksAreNow() {
        edges.of("Exceptions", "---- zones; all times are told by them as they are now.");
        MeetingServer server = Scenes.wide();
        server.move(7, 3, 90);
        server.send(7);
        server.deliver(8);
        server.setOffset(0, 4);
        edges.due("the organiser's", server.begin(2, 0, 3), 78);
        edges.due("a copy's", server.begin(1, 0, 3), 78);
        edges.due("a moved one's", server.begin(0, 7, 3), 86);
        edges.due("where the organiser is busy", server.rank(2, 79), MeetingServer.BUSY);
        edges.due("where it was before", server.rank(2, 82), MeetingServer.FREE);
        server.setSummer(0, 3, 4);
        edges.due("in the summer", server.begin(1, 0, 3), 77);
        edges.due("the day ahead of it", server.begin(1, 0, 0), 6);
        edges.due("the first free hour", server.firstFree(4, 77, 1), 79);
        edges.due("the first free hour by hours", server.firstFreeByHours(4, 77, 1), 79);
        edges.due("no version by a clock", server.sequence(2, 0), 6);
        server.setSummer(0, NONE, 7);
        server.setOffset(0, 0);
        edges.due("as at first", server.begin(1, 0, 3), 82);
    }

    private void newObject() {
        edges.of(1, "No meetings, no messages; all clocks go by the common hours.");
        MeetingServer server = new MeetingServer();
        edges.due("meetings", server.meetings(), 0);
        edges.due("messages", server.messages(), 0);
        for (int zone = 0; zone < 3; zone++) {
            for (int hour : new int[] {-100, -1, 0, 2, 26, 1439, 1442, 2000}) {
                edges.due("local " + hour, server.local(zone, hour), hour);
                edges.due("common " + hour, server.common(zone, hour), hour);
            }
        }
        for (int person = 0; person < 5; person++) {
            edges.due("no mark", server.mark(person), 0);
            edges.due("no changes", server.changes(person, 0), 0);
            edges.due("free from the first hour on", server.firstFree(1 << person, -48, 48), -48);
        }
        edges.noPlace("no meeting 0", MeetingServer::new, x -> x.agrees(0));
        edges.noPlace("no message 0", MeetingServer::new, x -> x.deliver(0));
    }

    private void setOffset() {
        edges.of(2, "Returns the offset before.");
        MeetingServer server = new MeetingServer();
        edges.due("of a new object", server.setOffset(0, 12), 0);
        edges.due("the highest", server.setOffset(0, -12), 12);
        edges.due("the lowest", server.setOffset(0, -12), -12);
        edges.due("the same again", server.setOffset(0, 1), -12);
        edges.due("of another zone", server.setOffset(1, 1), 0);
        edges.of(2, "Sets the offset of a zone.");
        edges.due("of this one", server.local(0, 10), 11);
        edges.due("not of another one", server.local(2, 10), 10);
        MeetingServer summer = withClock(0, 3, 10, 20);
        summer.setOffset(0, 0);
        edges.due("the summer stays, and begins by the new offset", summer.local(0, 242), 243);
        edges.due("the hour ahead", summer.local(0, 241), 241);
    }

    private void setSummer() {
        edges.of(3, "Returns the first day before; NONE for no summer.");
        MeetingServer server = new MeetingServer();
        edges.due("of a new object", server.setSummer(0, 0, 1), NONE);
        edges.due("the lowest", server.setSummer(0, 59, 60), 0);
        edges.due("the highest", server.setSummer(0, NONE, 60), 59);
        edges.due("none", server.setSummer(0, NONE, NONE), NONE);
        edges.due("none again", server.setSummer(0, 7, 8), NONE);
        edges.due("of another zone", server.setSummer(1, 7, 8), NONE);
        edges.of(3, "Sets the summer of a zone.");
        edges.due("this one", server.local(0, 7 * 24 + 2), 7 * 24 + 3);
        edges.due("not another one", server.local(2, 7 * 24 + 2), 7 * 24 + 2);
        server.setSummer(0, 20, 30);
        edges.due("the one before is none any more", server.local(0, 7 * 24 + 2), 7 * 24 + 2);
        server.setSummer(0, NONE, Integer.MAX_VALUE);
        edges.due("none", server.local(0, 25 * 24), 25 * 24);
        edges.of(3, "first and 1, together, to 60");
        server.setSummer(0, 0, 1);
        edges.due("a summer of one day: its last hour", server.local(0, 25), 26);
        edges.due("behind it", server.local(0, 26), 26);
        server.setSummer(0, 0, 60);
        edges.due("a summer of all days: its last hour", server.local(0, 1441), 1442);
        edges.due("behind all days", server.local(0, 1442), 1442);
    }

    private void common() {
        edges.of(4, "Returns the common hour of a local hour.");
        edges.due("the first that is allowed", withClock(2, 12, 0, 60).common(2, -100), -112);
        edges.due("the last that is allowed", withClock(2, -12, 0, 60).common(2, 2000), 2012);
        edges.of(4, "Returns the common hour.");
        edges.due("in a summer", withClock(2, -12, 0, 60).common(2, 700), 711);
        edges.due("ahead of all summers", withClock(2, -12, 0, 60).common(2, 1), 13);
        edges.due("behind all summers", withClock(2, -12, 0, 60).common(2, 1443), 1455);
    }

    private void local() {
        edges.of(5, "Returns the local hour of a common hour.");
        edges.due("the first that is allowed", withClock(2, -12, 0, 60).local(2, -100), -112);
        edges.due("the last that is allowed", withClock(2, 12, 0, 60).local(2, 2000), 2012);
        edges.of(5, "Returns the local hour.");
        edges.due("in a summer", withClock(2, 12, 0, 60).local(2, 700), 713);
        edges.due("ahead of all summers", withClock(2, 12, 0, 60).local(2, -11), 1);
        edges.due("behind all summers", withClock(2, 12, 0, 60).local(2, 1430), 1442);
    }
}
