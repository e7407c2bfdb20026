/** Promises 6 to 16. */
public final class OrganiserTest {
    private static final Check CHECK = new Check("OrganiserTest");
    private static final int NONE = MeetingServer.NONE;
    private static final int NEEDED = MeetingServer.NEEDED;
    private static final int ACCEPTED = MeetingServer.ACCEPTED;

    private OrganiserTest() {
    }

    public static void main(String[] args) {
        make();
        makeRefuses();
        time();
        timeRefuses();
        rule();
        ruleKeepsWhatWasChangedForDays();
        ruleRefuses();
        drop();
        dropRefuses();
        add();
        addRefuses();
        move();
        moveRefuses();
        invite();
        inviteRefuses();
        cancel();
        send();
        sendToWhomItWasSentBefore();
        sendRefuses();
        take();
        takeRefuses();
        refuse();
        refuseRefuses();
        CHECK.end();
    }

    private static void cancelledRefuses(String what, java.util.function.Consumer<MeetingServer> call) {
        CHECK.badState(what + " when cancelled", Scenes::cancelled, call);
    }

    // ---- 6

    private static void make() {
        MeetingServer server = new MeetingServer();
        CHECK.due("6: first", server.make(4, 2, 59, 23, 23), 0);
        CHECK.due("6: second", server.make(4, 0, 0, 0, 1), 1);
        CHECK.due("6: meetings", server.meetings(), 2);
        CHECK.due("6: one date", Look.dates(server, 4, 0), "59");
        CHECK.due("6: begin", server.begin(4, 0, 59), 59 * 24 + 23);
        CHECK.due("6: sequence", server.sequence(4, 0), 0);
        CHECK.due("6: there", server.isThere(4, 0), true);
        CHECK.due("6: not at others", server.isThere(3, 0), false);
        CHECK.due("6: last hour", server.rank(4, 59 * 24 + 23 + 22), MeetingServer.BUSY);
        CHECK.due("6: behind it", server.rank(4, 59 * 24 + 23 + 23), MeetingServer.FREE);
        CHECK.due("6: mark", server.mark(4), 2);
        CHECK.due("6: mark of others", server.mark(0), 0);
        CHECK.due("6: nobody asked", server.isAsked(0, 0) || server.isAsked(0, 1), false);
        server.setOffset(2, 5);
        CHECK.due("6: the clock of its zone", server.begin(4, 0, 59), 59 * 24 + 23 - 5);
        CHECK.due("6: another zone", server.begin(4, 1, 0), 0);
        MeetingServer full = Scenes.full();
        CHECK.due("6: eight", full.meetings(), 8);
        CHECK.due("6: the eighth", Look.dates(full, 0, 7), "7");
    }

    private static void makeRefuses() {
        CHECK.noPlace("6: person -1", MeetingServer::new, x -> x.make(-1, 0, 3, 10, 2));
        CHECK.noPlace("6: person 5, ahead of the day", MeetingServer::new, x -> x.make(5, 0, 60, 10, 2));
        CHECK.noPlace("6: zone -1", MeetingServer::new, x -> x.make(0, -1, 3, 10, 2));
        CHECK.noPlace("6: zone 3, ahead of the length", MeetingServer::new, x -> x.make(0, 3, 3, 10, 0));
        CHECK.badArgument("6: day -1", MeetingServer::new, x -> x.make(0, 0, -1, 10, 2));
        CHECK.badArgument("6: day 60", MeetingServer::new, x -> x.make(0, 0, 60, 10, 2));
        CHECK.badArgument("6: hour -1", MeetingServer::new, x -> x.make(0, 0, 3, -1, 2));
        CHECK.badArgument("6: hour 24", MeetingServer::new, x -> x.make(0, 0, 3, 24, 2));
        CHECK.badArgument("6: length 0", MeetingServer::new, x -> x.make(0, 0, 3, 10, 0));
        CHECK.badArgument("6: length 24", MeetingServer::new, x -> x.make(0, 0, 3, 10, 24));
        CHECK.badState("6: a ninth", Scenes::full, x -> x.make(1, 0, 3, 10, 2));
        CHECK.badArgument("6: the length ahead of a ninth", Scenes::full, x -> x.make(1, 0, 3, 10, 24));
        CHECK.noPlace("6: the person ahead of a ninth", Scenes::full, x -> x.make(5, 0, 3, 10, 2));
    }

    // ---- 7

    private static void time() {
        MeetingServer server = Scenes.repeated();
        server.drop(0, 4);
        server.add(0, 5);
        server.move(0, 6, 200);
        int mark = server.mark(0);
        CHECK.due("7: sequence", server.time(0, 4, 11, 2), 5);
        CHECK.due("7: mark", server.mark(0), mark + 1);
        CHECK.due("7: dropped and added stay so", Look.dates(server, 0, 0), "5 6 8 10 12");
        CHECK.due("7: moved stays so", server.begin(0, 0, 6), 200);
        CHECK.due("7: hour", server.begin(0, 0, 8), 8 * 24 + 11);
        CHECK.due("7: hour of an added one", server.begin(0, 0, 5), 5 * 24 + 11);
        CHECK.due("7: length", server.rank(0, 8 * 24 + 12), MeetingServer.BUSY);
        CHECK.due("7: behind it", server.rank(0, 8 * 24 + 13), MeetingServer.FREE);
        CHECK.due("7: length of a moved one", server.rank(0, 201), MeetingServer.BUSY);
        server.time(0, 59, 0, 23);
        CHECK.due("7: the day 59", Look.dates(server, 0, 0), "5 59");
        server.time(0, 0, 23, 1);
        CHECK.due("7: the day 0", Look.dates(server, 0, 0), "0 2 5 6 8");
        server.repeat(0, 1, 1 + 2, 4);
        server.time(0, 14, 7, 1);
        CHECK.due("7: the rule stays", Look.dates(server, 0, 0), "5 14 15 21 22");
        MeetingServer answered = Scenes.accepted();
        CHECK.due("7: answered", answered.answerOf(0, 1, 4), ACCEPTED);
        answered.time(0, 2, 9, 1);
        CHECK.due("7: stand of a day", answered.answerOf(0, 1, 4), NEEDED);
        CHECK.due("7: stand of the last day", answered.answerOf(0, 1, 10), NEEDED);
        CHECK.due("7: the copy knows of no change", answered.ownAnswer(1, 0, 4), ACCEPTED);
    }

    private static void timeRefuses() {
        CHECK.noPlace("7: meeting -1", Scenes::held, x -> x.time(-1, 3, 10, 2));
        CHECK.noPlace("7: meeting 1, ahead of the day", Scenes::held, x -> x.time(1, 60, 10, 2));
        CHECK.badArgument("7: day -1", Scenes::held, x -> x.time(0, -1, 10, 2));
        CHECK.badArgument("7: day 60", Scenes::held, x -> x.time(0, 60, 10, 2));
        CHECK.badArgument("7: hour -1", Scenes::held, x -> x.time(0, 3, -1, 2));
        CHECK.badArgument("7: hour 24", Scenes::held, x -> x.time(0, 3, 24, 2));
        CHECK.badArgument("7: length 0", Scenes::held, x -> x.time(0, 3, 10, 0));
        CHECK.badArgument("7: length 24", Scenes::held, x -> x.time(0, 3, 10, 24));
        CHECK.badArgument("7: the length ahead of cancelled", Scenes::cancelled, x -> x.time(0, 3, 10, 24));
        cancelledRefuses("7: time", x -> x.time(0, 3, 10, 2));
    }

    // ---- 8

    private static String datesBy(int first, int step, int weekdays, int count) {
        MeetingServer server = new MeetingServer();
        server.make(0, 0, first, 9, 1);
        server.repeat(0, step, weekdays, count);
        return Look.dates(server, 0, 0);
    }

    private static void rule() {
        CHECK.due("8: every day", datesBy(0, 1, 127, 10), "0 1 2 3 4 5 6 7 8 9");
        CHECK.due("8: count 1", datesBy(7, 1, 127, 1), "7");
        CHECK.due("8: each 28 days", datesBy(1, 28, 127, 10), "1 29 57");
        CHECK.due("8: up to 59", datesBy(45, 7, 127, 10), "45 52 59");
        CHECK.due("8: of the day 59", datesBy(59, 1, 127, 10), "59");
        CHECK.due("8: one weekday", datesBy(3, 1, 1, 4), "7 14 21 28");
        CHECK.due("8: the last weekday", datesBy(3, 1, 64, 3), "6 13 20");
        CHECK.due("8: two weekdays and a step", datesBy(4, 2, 1 + 2, 4), "8 14 22 28");
        CHECK.due("8: no day", datesBy(3, 7, 1, 10), "");
        CHECK.due("8: the first day out of the set", datesBy(3, 3, 127 - 8, 3), "6 9 12");
        MeetingServer server = Scenes.made();
        int mark = server.mark(0);
        CHECK.due("8: sequence", server.repeat(0, 1, 127, 2), 1);
        CHECK.due("8: mark", server.mark(0), mark + 1);
        MeetingServer answered = Scenes.accepted();
        answered.repeat(0, 2, 127, 5);
        CHECK.due("8: stand of a day", answered.answerOf(0, 1, 2), NEEDED);
        CHECK.due("8: stand of the last day", answered.answerOf(0, 1, 10), NEEDED);
    }

    private static void ruleKeepsWhatWasChangedForDays() {
        MeetingServer server = Scenes.repeated();
        server.drop(0, 2);
        server.add(0, 5);
        server.move(0, 6, 500);
        CHECK.due("8: a dropped day counts all the same", Look.dates(server, 0, 0), "4 5 6 8 10");
        server.repeat(0, 1, 127, 2);
        CHECK.due("8: dropped and added stay so", Look.dates(server, 0, 0), "3 5");
        server.repeat(0, 4, 127, 2);
        CHECK.due("8: moved stays so", server.begin(0, 0, 6), 500);
    }

    private static void ruleRefuses() {
        CHECK.noPlace("8: meeting -1", Scenes::held, x -> x.repeat(-1, 1, 127, 1));
        CHECK.noPlace("8: meeting 1, ahead of the step", Scenes::held, x -> x.repeat(1, 0, 127, 1));
        CHECK.badArgument("8: step 0", Scenes::held, x -> x.repeat(0, 0, 127, 1));
        CHECK.badArgument("8: step 29", Scenes::held, x -> x.repeat(0, 29, 127, 1));
        CHECK.badArgument("8: weekdays 0", Scenes::held, x -> x.repeat(0, 1, 0, 1));
        CHECK.badArgument("8: weekdays 128", Scenes::held, x -> x.repeat(0, 1, 128, 1));
        CHECK.badArgument("8: count 0", Scenes::held, x -> x.repeat(0, 1, 127, 0));
        CHECK.badArgument("8: count 11", Scenes::held, x -> x.repeat(0, 1, 127, 11));
        CHECK.badArgument("8: the count ahead of cancelled", Scenes::cancelled, x -> x.repeat(0, 1, 127, 11));
        cancelledRefuses("8: repeat", x -> x.repeat(0, 1, 127, 1));
    }

    // ---- 9

    private static void drop() {
        MeetingServer server = Scenes.repeated();
        int mark = server.mark(0);
        CHECK.due("9: sequence", server.drop(0, 4), 2);
        CHECK.due("9: mark", server.mark(0), mark + 1);
        CHECK.due("9: no date any more", Look.dates(server, 0, 0), "2 6 8 10");
        server.add(0, 5);
        server.drop(0, 5);
        CHECK.due("9: added no more", Look.dates(server, 0, 0), "2 6 8 10");
        server.repeat(0, 1, 127, 10);
        CHECK.due("9: dropped all the same", Look.dates(server, 0, 0), "2 3 6 7 8 9 10 11");
        server.move(0, 6, 500);
        server.drop(0, 6);
        server.add(0, 6);
        CHECK.due("9: moved no more", server.begin(0, 0, 6), 6 * 24 + 9);
        server.drop(0, 6);
        server.repeat(0, 28, 127, 1);
        CHECK.due("9: an added day of the rule, too", Look.dates(server, 0, 0), "2");
        server.drop(0, 2);
        CHECK.due("9: the last date", server.dates(0, 0), 0);
        CHECK.due("9: there without dates", server.isThere(0, 0), true);
        MeetingServer answered = Scenes.accepted();
        answered.drop(0, 4);
        CHECK.due("9: no stand", answered.answerOf(0, 1, 6), ACCEPTED);
    }

    private static MeetingServer withoutDay() {
        MeetingServer server = Scenes.repeated();
        server.drop(0, 4);
        return server;
    }

    private static void dropRefuses() {
        CHECK.noPlace("9: meeting -1", Scenes::held, x -> x.drop(-1, 3));
        CHECK.noPlace("9: meeting 1, ahead of the day", Scenes::held, x -> x.drop(1, 60));
        CHECK.badArgument("9: day -1", Scenes::held, x -> x.drop(0, -1));
        CHECK.badArgument("9: day 60", Scenes::held, x -> x.drop(0, 60));
        CHECK.badArgument("9: the day ahead of cancelled", Scenes::cancelled, x -> x.drop(0, 60));
        CHECK.badState("9: no date", Scenes::held, x -> x.drop(0, 4));
        CHECK.badState("9: dropped", OrganiserTest::withoutDay, x -> x.drop(0, 4));
        cancelledRefuses("9: drop", x -> x.drop(0, 3));
    }

    // ---- 10

    private static void add() {
        MeetingServer server = Scenes.repeated();
        int mark = server.mark(0);
        CHECK.due("10: sequence", server.add(0, 5), 2);
        CHECK.due("10: mark", server.mark(0), mark + 1);
        CHECK.due("10: a date", Look.dates(server, 0, 0), "2 4 5 6 8 10");
        CHECK.due("10: its hour", server.begin(0, 0, 5), 5 * 24 + 9);
        server.add(0, 0);
        server.add(0, 59);
        CHECK.due("10: the first and the last", Look.dates(server, 0, 0), "0 2 4 5 6 8 10 59");
        server.drop(0, 4);
        server.add(0, 4);
        CHECK.due("10: dropped no more", Look.dates(server, 0, 0), "0 2 4 5 6 8 10 59");
        server.repeat(0, 28, 127, 1);
        CHECK.due("10: stays with any rule", Look.dates(server, 0, 0), "0 2 4 5 59");
        MeetingServer answered = Scenes.accepted();
        answered.add(0, 5);
        CHECK.due("10: the stand of its day", answered.answerOf(0, 1, 5), NEEDED);
        CHECK.due("10: no other's", answered.answerOf(0, 1, 4), ACCEPTED);
        MeetingServer moved = Scenes.repeated();
        moved.move(0, 6, 500);
        moved.repeat(0, 1, 127, 1);
        moved.add(0, 6);
        CHECK.due("10: a day that was moved, and not dropped, stays so", moved.begin(0, 0, 6), 500);
    }

    private static MeetingServer withAddedDay() {
        MeetingServer server = Scenes.repeated();
        server.add(0, 5);
        return server;
    }

    private static void addRefuses() {
        CHECK.noPlace("10: meeting -1", Scenes::held, x -> x.add(-1, 4));
        CHECK.noPlace("10: meeting 1, ahead of the day", Scenes::held, x -> x.add(1, 60));
        CHECK.badArgument("10: day -1", Scenes::held, x -> x.add(0, -1));
        CHECK.badArgument("10: day 60", Scenes::held, x -> x.add(0, 60));
        CHECK.badArgument("10: the day ahead of cancelled", Scenes::cancelled, x -> x.add(0, -1));
        CHECK.badState("10: a day of the rule", Scenes::held, x -> x.add(0, 3));
        CHECK.badState("10: a day that was added", OrganiserTest::withAddedDay, x -> x.add(0, 5));
        cancelledRefuses("10: add", x -> x.add(0, 4));
    }

    // ---- 11

    private static void move() {
        MeetingServer server = Scenes.repeated();
        int mark = server.mark(0);
        CHECK.due("11: sequence", server.move(0, 4, 300), 2);
        CHECK.due("11: mark", server.mark(0), mark + 1);
        CHECK.due("11: told by its own day", Look.dates(server, 0, 0), "2 4 6 8 10");
        CHECK.due("11: begin", server.begin(0, 0, 4), 300);
        CHECK.due("11: busy there", server.rank(0, 300), MeetingServer.BUSY);
        CHECK.due("11: not at its own hour", server.rank(0, 4 * 24 + 9), MeetingServer.FREE);
        server.move(0, 4, 0);
        CHECK.due("11: lowest", server.begin(0, 0, 4), 0);
        server.move(0, 6, 1439);
        CHECK.due("11: highest", server.begin(0, 0, 6), 1439);
        CHECK.due("11: others stay", server.begin(0, 0, 8), 8 * 24 + 9);
        server.setOffset(0, 2);
        CHECK.due("11: by the clock of the zone", server.begin(0, 0, 6), 1437);
        MeetingServer answered = Scenes.accepted();
        answered.move(0, 4, 4 * 24 + 9);
        CHECK.due("11: the stand of its day", answered.answerOf(0, 1, 4), NEEDED);
        CHECK.due("11: no other's", answered.answerOf(0, 1, 6), ACCEPTED);
    }

    private static void moveRefuses() {
        CHECK.noPlace("11: meeting -1", Scenes::held, x -> x.move(-1, 3, 100));
        CHECK.noPlace("11: meeting 1, ahead of the hour", Scenes::held, x -> x.move(1, 3, 1440));
        CHECK.badArgument("11: day -1", Scenes::held, x -> x.move(0, -1, 100));
        CHECK.badArgument("11: day 60", Scenes::held, x -> x.move(0, 60, 100));
        CHECK.badArgument("11: hour -1", Scenes::held, x -> x.move(0, 3, -1));
        CHECK.badArgument("11: hour 1440", Scenes::held, x -> x.move(0, 3, 1440));
        CHECK.badArgument("11: the hour ahead of no date", Scenes::held, x -> x.move(0, 4, 1440));
        CHECK.badState("11: no date", Scenes::held, x -> x.move(0, 4, 100));
        cancelledRefuses("11: move", x -> x.move(0, 3, 100));
    }

    // ---- 12

    private static void invite() {
        MeetingServer server = Scenes.made();
        CHECK.due("12: sequence", server.invite(0, 3, true), 1);
        CHECK.due("12: mark", server.mark(0), 2);
        CHECK.due("12: the mark of the invited", server.mark(3), 0);
        CHECK.due("12: asked", server.isAsked(0, 3), true);
        CHECK.due("12: left out", server.invite(0, 3, false), 2);
        CHECK.due("12: not asked then", server.isAsked(0, 3), false);
        CHECK.due("12: left out is sent one", server.send(0), 1);
        CHECK.due("12: and has none then", server.deliver(0) && !server.isThere(3, 0), true);
        CHECK.due("12: invited again", server.invite(0, 3, true), 3);
        CHECK.due("12: asked again", server.isAsked(0, 3), true);
        server.send(0);
        server.deliver(1);
        CHECK.due("12: left out no more", server.isThere(3, 0), true);
        CHECK.due("12: left out without an invitation", server.invite(0, 4, false), 4);
        CHECK.due("12: others stay as they are", server.isAsked(0, 3), true);
        server.invite(0, 2, false);
        CHECK.due("12: two are left out", server.send(0), 3);
        MeetingServer answered = Scenes.accepted();
        answered.invite(0, 2, true);
        CHECK.due("12: no stand", answered.answerOf(0, 1, 4), ACCEPTED);
        answered.invite(0, 2, false);
        CHECK.due("12: no stand by leaving out", answered.answerOf(0, 1, 4), ACCEPTED);
    }

    private static void inviteRefuses() {
        CHECK.noPlace("12: meeting -1", Scenes::held, x -> x.invite(-1, 3, true));
        CHECK.noPlace("12: meeting 1, ahead of the organiser", Scenes::held, x -> x.invite(1, 0, true));
        CHECK.noPlace("12: person -1", Scenes::held, x -> x.invite(0, -1, true));
        CHECK.noPlace("12: person 5, ahead of cancelled", Scenes::cancelled, x -> x.invite(0, 5, true));
        CHECK.badArgument("12: the organiser", Scenes::held, x -> x.invite(0, 0, true));
        CHECK.badArgument("12: the organiser, left out", Scenes::held, x -> x.invite(0, 0, false));
        CHECK.badArgument("12: the organiser ahead of cancelled", Scenes::cancelled, x -> x.invite(0, 0, true));
        CHECK.badState("12: invited already", Scenes::held, x -> x.invite(0, 1, true));
        cancelledRefuses("12: invite", x -> x.invite(0, 3, true));
        cancelledRefuses("12: leave out", x -> x.invite(0, 3, false));
        CHECK.badState("12: left out already", OrganiserTest::leftOut, x -> x.invite(0, 1, false));
    }

    private static MeetingServer leftOut() {
        MeetingServer server = Scenes.held();
        server.invite(0, 1, false);
        return server;
    }

    // ---- 13

    private static void cancel() {
        MeetingServer server = Scenes.held();
        CHECK.due("13: sequence", server.cancel(0), 3);
        CHECK.due("13: mark", server.mark(0), 4);
        CHECK.due("13: gone", server.isThere(0, 0), false);
        CHECK.due("13: a copy stays", server.isThere(1, 0), true);
        CHECK.due("13: busy no more", server.rank(0, 82), MeetingServer.FREE);
        CHECK.due("13: still asked", server.isAsked(0, 1), true);
        server.send(0);
        server.deliver(2);
        CHECK.due("13: the copy is gone then", server.isThere(1, 0), false);
        MeetingServer answered = Scenes.accepted();
        answered.cancel(0);
        CHECK.due("13: no stand", answered.answerOf(0, 1, 4), ACCEPTED);
        CHECK.noPlace("13: meeting -1", Scenes::held, x -> x.cancel(-1));
        CHECK.noPlace("13: meeting 1", Scenes::cancelled, x -> x.cancel(1));
        cancelledRefuses("13: cancel", x -> x.cancel(0));
    }

    // ---- 14

    private static void send() {
        MeetingServer server = new MeetingServer();
        server.make(2, 0, 3, 10, 2);
        CHECK.due("14: nobody", server.send(0), 0);
        CHECK.due("14: no message", server.messages(), 0);
        server.invite(0, 4, true);
        server.invite(0, 0, true);
        server.invite(0, 3, false);
        int mark = server.mark(2);
        CHECK.due("14: asked and left out", server.send(0), 3);
        CHECK.due("14: by rising numbers", Look.lines(server, 0), "request ca 0 3, request cd 0 3, request ce 0 3");
        CHECK.due("14: no mark", server.mark(2), mark);
        CHECK.due("14: no version", server.sequence(2, 0), 3);
        CHECK.due("14: nobody has it yet", server.sequence(0, 0), NONE);
        server.move(0, 3, 90);
        server.send(0);
        server.move(0, 3, 95);
        server.deliver(3);
        CHECK.due("14: the version of that time", server.begin(0, 0, 3), 90);
        server.cancel(0);
        CHECK.due("14: also if it is cancelled", server.send(0), 3);
        CHECK.due("14: the cancelled one", Look.lines(server, 6), "request ca 0 6, request cd 0 6, request ce 0 6");
    }

    private static void sendToWhomItWasSentBefore() {
        MeetingServer server = Scenes.repeatedHeld();
        server.delegate(1, 0, 4);
        server.deliver(2);
        CHECK.due("14: not to the one by whose delegate() it came alone", server.send(0), 1);
        server.deliver(1);
        CHECK.due("14: to the delegate who is asked", server.send(0), 2);
        server.answer(1, 0, NONE, ACCEPTED);
        server.deliver(server.messages() - 1);
        CHECK.due("14: asked no more", server.isAsked(0, 4), false);
        CHECK.due("14: sent one before", server.send(0), 2);
        CHECK.due("14: of another meeting", server.make(0, 0, 1, 1, 1), 1);
        CHECK.due("14: nobody was", server.send(1), 0);
    }

    private static void sendRefuses() {
        CHECK.noPlace("14: meeting -1", Scenes::held, x -> x.send(-1));
        CHECK.noPlace("14: meeting 1", Scenes::held, x -> x.send(1));
        CHECK.badState("14: 151 messages", () -> Scenes.heldWithMessages(149), x -> x.send(0));
        CHECK.noPlace("14: the meeting ahead of the room", () -> Scenes.heldWithMessages(150), x -> x.send(1));
        MeetingServer server = Scenes.heldWithMessages(148);
        CHECK.due("14: 150 messages", server.send(0), 2);
        CHECK.due("14: as many as there can be", server.messages(), 150);
        server.make(1, 0, 5, 5, 5);
        CHECK.due("14: to nobody without room", server.send(1), 0);
        MeetingServer tried = Scenes.made();
        tried.invite(0, 1, true);
        tried.send(0);
        tried.deliver(0);
        while (tried.messages() < 149) {
            tried.answer(1, 0, NONE, ACCEPTED);
        }
        tried.invite(0, 3, true);
        CHECK.due("14: no room for two", Check.thrownBy(() -> tried.send(0)), "IllegalStateException");
        CHECK.due("14: none was made", tried.messages(), 149);
    }

    // ---- 15

    /** Person 1 has proposed the hour 90 for the day 3, by message 2, and 95, by message 3; person 2 96, by 4. */
    private static MeetingServer proposed() {
        MeetingServer server = Scenes.held();
        server.propose(1, 0, 3, 90);
        server.propose(1, 0, 3, 95);
        server.propose(2, 0, 3, 96);
        server.deliver(2);
        server.deliver(4);
        return server;
    }

    private static void take() {
        MeetingServer server = proposed();
        int mark = server.mark(0);
        CHECK.due("15: sequence", server.take(4), 3);
        CHECK.due("15: moved", server.begin(0, 0, 3), 96);
        CHECK.due("15: told by its own day", Look.dates(server, 0, 0), "3");
        CHECK.due("15: mark", server.mark(0), mark + 1);
        CHECK.due("15: no mark of others", server.mark(2), 1);
        CHECK.due("15: a version", server.sequence(0, 0), 3);
        CHECK.due("15: the stand closes the others", server.proposals(0), 0);
        server.deliver(3);
        CHECK.due("15: those that come, too", server.proposals(0), 0);
        MeetingServer answered = Scenes.accepted();
        answered.propose(1, 0, 4, 100);
        answered.deliver(2);
        answered.take(2);
        CHECK.due("15: the stand of its day", answered.answerOf(0, 1, 4), NEEDED);
        CHECK.due("15: no other's", answered.answerOf(0, 1, 6), ACCEPTED);
    }

    private static MeetingServer cancelledWithProposal() {
        MeetingServer server = proposed();
        server.cancel(0);
        return server;
    }

    private static MeetingServer droppedWithProposal() {
        MeetingServer server = proposed();
        server.drop(0, 3);
        return server;
    }

    private static MeetingServer movedWithProposal() {
        MeetingServer server = proposed();
        server.move(0, 3, 100);
        return server;
    }

    private static MeetingServer refused() {
        MeetingServer server = proposed();
        server.refuse(2);
        return server;
    }

    private static MeetingServer taken() {
        MeetingServer server = proposed();
        server.take(2);
        return server;
    }

    private static void takeRefuses() {
        CHECK.noPlace("15: message -1", OrganiserTest::proposed, x -> x.take(-1));
        CHECK.noPlace("15: message 5", OrganiserTest::proposed, x -> x.take(5));
        CHECK.badState("15: a request", OrganiserTest::proposed, x -> x.take(0));
        CHECK.badState("15: a reply", Scenes::accepted, x -> x.take(1));
        CHECK.badState("15: not come", OrganiserTest::proposed, x -> x.take(3));
        CHECK.badState("15: refused", OrganiserTest::refused, x -> x.take(2));
        CHECK.badState("15: taken", OrganiserTest::taken, x -> x.take(2));
        CHECK.badState("15: cancelled", OrganiserTest::cancelledWithProposal, x -> x.take(2));
        CHECK.badState("15: no date", OrganiserTest::droppedWithProposal, x -> x.take(2));
        CHECK.badState("15: moved since", OrganiserTest::movedWithProposal, x -> x.take(2));
    }

    // ---- 16

    private static void refuse() {
        MeetingServer server = proposed();
        server.deliver(3);
        int mark = server.mark(0);
        CHECK.due("16: two are left", server.refuse(3), 2);
        CHECK.due("16: which", Look.proposals(server, 0), "2 4");
        CHECK.due("16: one is left", server.refuse(2), 1);
        CHECK.due("16: none is left", server.refuse(4), 0);
        CHECK.due("16: no version", server.sequence(0, 0), 2);
        CHECK.due("16: no mark", server.mark(0), mark);
        CHECK.due("16: not moved", server.begin(0, 0, 3), 82);
        server.deliver(2);
        CHECK.due("16: it does not come again", server.proposals(0), 0);
        MeetingServer two = proposed();
        two.make(0, 0, 5, 5, 1);
        two.invite(1, 1, true);
        two.send(1);
        two.deliver(5);
        two.propose(1, 1, 5, 7);
        two.deliver(6);
        CHECK.due("16: of its own meeting", two.refuse(6), 0);
        CHECK.due("16: of the other one", two.refuse(2), 1);
    }

    private static void refuseRefuses() {
        CHECK.noPlace("16: message -1", OrganiserTest::proposed, x -> x.refuse(-1));
        CHECK.noPlace("16: message 5", OrganiserTest::proposed, x -> x.refuse(5));
        CHECK.badState("16: a request", OrganiserTest::proposed, x -> x.refuse(0));
        CHECK.badState("16: a reply", Scenes::accepted, x -> x.refuse(1));
        CHECK.badState("16: not come", OrganiserTest::proposed, x -> x.refuse(3));
        CHECK.badState("16: refused", OrganiserTest::refused, x -> x.refuse(2));
        CHECK.badState("16: taken", OrganiserTest::taken, x -> x.refuse(2));
        CHECK.badState("16: cancelled", OrganiserTest::cancelledWithProposal, x -> x.refuse(2));
        CHECK.badState("16: no date", OrganiserTest::droppedWithProposal, x -> x.refuse(2));
        CHECK.badState("16: moved since", OrganiserTest::movedWithProposal, x -> x.refuse(2));
    }
}
