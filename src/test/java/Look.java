/** What the calls that only ask tell of an object, as texts: of two objects alike the same ones. */
final class Look {
    private Look() {
    }

    /** All of an object that can be asked in few calls. */
    static String at(MeetingServer server) {
        StringBuilder text = new StringBuilder();
        for (int zone = 0; zone < 3; zone++) {
            text.append(" zone ").append(server.local(zone, 0)).append(' ').append(server.local(zone, 500));
        }
        for (int person = 0; person < 5; person++) {
            text.append(" mark ").append(server.mark(person)).append(' ').append(changes(server, person));
            text.append(' ').append(server.rank(person, 82));
        }
        for (int meeting = 0; meeting < server.meetings(); meeting++) {
            text.append("\nmeeting ").append(meeting).append(" open ").append(proposals(server, meeting));
            text.append(server.agrees(meeting) ? " agrees" : "");
            for (int person = 0; person < 5; person++) {
                addHeld(text, server, meeting, person);
            }
        }
        text.append("\nmessages ").append(server.messages());
        for (int message = Math.max(0, server.messages() - 2); message < server.messages(); message++) {
            text.append(' ').append(line(server, message));
        }
        return text.toString();
    }

    private static void addHeld(StringBuilder text, MeetingServer server, int meeting, int person) {
        text.append("\n  ").append(person).append(server.isAsked(meeting, person) ? " asked" : "");
        text.append(" sequence ").append(server.sequence(person, meeting));
        int dates = server.dates(person, meeting);
        text.append(" dates ").append(dates);
        for (int place = 0; place < Math.min(dates, 3); place++) {
            int day = server.dateAt(person, meeting, place);
            text.append(" day ").append(day).append(" at ").append(server.begin(person, meeting, day));
            text.append(" own ").append(server.ownAnswer(person, meeting, day));
        }
    }

    /** The dates of a meeting as a person has them, lowest first. */
    static String dates(MeetingServer server, int person, int meeting) {
        StringBuilder text = new StringBuilder();
        for (int place = 0; place < server.dates(person, meeting); place++) {
            text.append(place == 0 ? "" : " ").append(server.dateAt(person, meeting, place));
        }
        return text.toString();
    }

    /** The open proposals for a meeting. */
    static String proposals(MeetingServer server, int meeting) {
        StringBuilder text = new StringBuilder();
        for (int place = 0; place < server.proposals(meeting); place++) {
            text.append(place == 0 ? "" : " ").append(server.proposalAt(meeting, place));
        }
        return text.toString();
    }

    /** The changes of a person since a mark. */
    static String changes(MeetingServer server, int person, int mark) {
        StringBuilder text = new StringBuilder();
        for (int place = 0; place < server.changes(person, mark); place++) {
            text.append(place == 0 ? "" : " ").append(server.changeAt(person, mark, place));
        }
        return text.toString();
    }

    /** The changes of a person since the floor, and how far this lies below the mark. */
    private static String changes(MeetingServer server, int person) {
        int mark = server.mark(person);
        while (mark > 0 && canBeAsked(server, person, mark - 1)) {
            mark--;
        }
        return "floor " + mark + " changes " + changes(server, person, mark);
    }

    static boolean canBeAsked(MeetingServer server, int person, int mark) {
        return Check.thrownBy(() -> server.changes(person, mark)).equals("nothing");
    }

    /** A message as a line. */
    static String line(MeetingServer server, int message) {
        StringBuilder line = new StringBuilder();
        for (int place = 0; place < server.lineLength(message); place++) {
            line.append(server.lineChar(message, place));
        }
        return line.toString();
    }

    /** The lines of the messages from one on. */
    static String lines(MeetingServer server, int from) {
        StringBuilder text = new StringBuilder();
        for (int message = from; message < server.messages(); message++) {
            text.append(message == from ? "" : ", ").append(line(server, message));
        }
        return text.toString();
    }
}
