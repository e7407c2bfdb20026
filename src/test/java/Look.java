/** What the calls that only ask tell of an object, as a text: of two objects alike the same one. */
final class Look {
    private Look() {
    }

    static String at(MeetingServer server) {
        StringBuilder text = new StringBuilder();
        for (int zone = 0; zone < 3; zone++) {
            text.append(" zone ").append(server.local(zone, 0)).append(' ').append(server.local(zone, 500));
        }
        for (int person = 0; person < 5; person++) {
            text.append(" mark ").append(server.mark(person)).append(' ').append(server.rank(person, 82));
        }
        for (int meeting = 0; meeting < server.meetings(); meeting++) {
            text.append("\nmeeting ").append(meeting).append(" open ").append(server.proposals(meeting));
            text.append(server.agrees(meeting) ? " agrees" : "");
            for (int person = 0; person < 5; person++) {
                addHeld(text, server, meeting, person);
            }
        }
        text.append("\nmessages ").append(server.messages());
        for (int message = Math.max(0, server.messages() - 2); message < server.messages(); message++) {
            text.append(' ').append(line(server, message));
        }
        return text.toString();
    }

    private static void addHeld(StringBuilder text, MeetingServer server, int meeting, int person) {
        text.append("\n  ").append(person).append(server.isAsked(meeting, person) ? " asked" : "");
        text.append(" sequence ").append(server.sequence(person, meeting));
        int dates = server.dates(person, meeting);
        for (int place = 0; place < Math.min(dates, 3); place++) {
            int day = server.dateAt(person, meeting, place);
            text.append(" day ").append(day).append(" at ").append(server.begin(person, meeting, day));
            text.append(" own ").append(server.ownAnswer(person, meeting, day));
        }
    }

    static String line(MeetingServer server, int message) {
        StringBuilder line = new StringBuilder();
        for (int place = 0; place < server.lineLength(message); place++) {
            line.append(server.lineChar(message, place));
        }
        return line.toString();
    }
}
