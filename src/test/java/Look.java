import java.util.function.IntUnaryOperator;

/**
 * What can be seen of an object, as texts: of two objects alike the same ones. The looks at clocks and at what
 * comes then change the object that they look at. A look makes few enough calls that those of a test ahead of it
 * and its own are no more than the 512 after which answers are free.
 */
enum Look {
    CLOCKS {
        @Override
        String at(MeetingServer server) {
            StringBuilder text = new StringBuilder();
            for (int zone = 0; zone < 3; zone++) {
                text.append(" offset ").append(server.setOffset(zone, 0)).append(" summer ");
                for (int day = 0; day <= 60; day++) {
                    text.append(server.local(zone, 24 * day + 2) - 24 * day - 2);
                }
                text.append(" from ").append(server.setSummer(zone, MeetingServer.NONE, 0));
            }
            return text.toString();
        }
    },

    HELD {
        @Override
        String at(MeetingServer server) {
            StringBuilder text = new StringBuilder();
            for (int meeting = 0; meeting < server.meetings(); meeting++) {
                for (int person = 0; person < 5; person++) {
                    text.append("\nmeeting ").append(meeting).append(" of ").append(person);
                    text.append(server.isThere(person, meeting) ? " there" : "");
                    text.append(" sequence ").append(server.sequence(person, meeting));
                    addDates(text, server, person, meeting);
                }
            }
            return text.toString();
        }
    },

    KNOWN {
        @Override
        String at(MeetingServer server) {
            StringBuilder text = new StringBuilder();
            for (int meeting = 0; meeting < server.meetings(); meeting++) {
                addKnown(text, server, meeting);
            }
            return text.toString();
        }
    },

    MAIL {
        @Override
        String at(MeetingServer server) {
            int count = server.messages();
            StringBuilder text = new StringBuilder().append(count);
            for (int message = Math.max(0, count - 12); message < count; message++) {
                text.append(' ').append(server.kindOf(message)).append(server.receiver(message));
            }
            return text.append(' ').append(lines(server, Math.max(0, count - 4))).toString();
        }
    },

    BUSY {
        private final int[] hours = {10, 11, 57, 81, 82, 83, 84, 90, 100, 105, 249, 1426, 1427};

        @Override
        String at(MeetingServer server) {
            StringBuilder text = new StringBuilder();
            for (int person = 0; person < 5; person++) {
                for (int hour : hours) {
                    text.append(server.rank(person, hour));
                }
                text.append(' ').append(server.firstFree(1 << person, 80, 3)).append(' ');
            }
            return text.append(server.firstFreeByHours(31, -48, 48)).toString();
        }
    },

    MARKS {
        @Override
        String at(MeetingServer server) {
            StringBuilder text = new StringBuilder();
            for (int person = 0; person < 5; person++) {
                int floor = floor(server, person);
                text.append(" mark ").append(server.mark(person)).append(" floor ").append(floor);
                text.append(" changes ").append(changes(server, person, floor));
            }
            return text.toString();
        }
    },

    WHAT_COMES_THEN {
        @Override
        String at(MeetingServer server) {
            StringBuilder text = new StringBuilder();
            int count = server.messages();
            for (int message = count - 1; message >= Math.max(0, count - 10); message--) {
                text.append(server.deliver(message) ? " come" : " no");
            }
            for (int meeting = 0; meeting < Math.min(2, server.meetings()); meeting++) {
                addAttempt(text, proposals -> server.refuse(server.proposalAt(proposals, 0)), meeting);
                addAttempt(text, server::send, meeting);
                for (int person = 0; person < 5; person++) {
                    int answering = person;
                    addAttempt(text, answered -> server.answer(answering, answered, -1, 2), meeting);
                }
            }
            for (int message = server.messages() - 1; message >= Math.max(0, count - 10); message--) {
                text.append(server.deliver(message) ? " come" : " no");
            }
            for (int meeting = 0; meeting < Math.min(2, server.meetings()); meeting++) {
                addKnown(text, server, meeting);
            }
            return text.append(MARKS.at(server)).toString();
        }
    };

    /** What is seen there. */
    abstract String at(MeetingServer server);

    private static void addAttempt(StringBuilder text, IntUnaryOperator call, int argument) {
        text.append(' ');
        String thrown = Check.thrownBy(() -> text.append(call.applyAsInt(argument)));
        text.append(thrown.equals("nothing") ? "" : thrown);
    }

    private static void addDates(StringBuilder text, MeetingServer server, int person, int meeting) {
        int dates = server.dates(person, meeting);
        text.append(" dates ").append(dates);
        for (int place = 0; place < Math.min(dates, 3); place++) {
            int day = server.dateAt(person, meeting, place);
            text.append(" day ").append(day).append(" at ").append(server.begin(person, meeting, day));
            text.append(" own ").append(server.ownAnswer(person, meeting, day));
        }
    }

    private static void addKnown(StringBuilder text, MeetingServer server, int meeting) {
        text.append("\nmeeting ").append(meeting).append(" open ").append(proposals(server, meeting));
        text.append(server.agrees(meeting) ? " agrees" : "").append(" asked ");
        for (int person = 0; person < 5; person++) {
            text.append(server.isAsked(meeting, person) ? person : "");
        }
        addAnswers(text, server, meeting);
    }

    private static void addAnswers(StringBuilder text, MeetingServer server, int meeting) {
        for (int day : new int[] {0, 3, 4, 59}) {
            for (int person = 0; person < 5; person++) {
                int asked = person;
                addAttempt(text, held -> server.answerOf(held, asked, day), meeting);
            }
            addAttempt(text, held -> server.answerByLog(held, 1, day), meeting);
        }
    }

    /** The lowest mark from which on changes can be asked. */
    static int floor(MeetingServer server, int person) {
        int low = 0;
        int high = server.mark(person);
        while (low < high) {
            int middle = (low + high) / 2;
            if (canBeAsked(server, person, middle)) {
                high = middle;
            } else {
                low = middle + 1;
            }
        }
        return low;
    }

    static boolean canBeAsked(MeetingServer server, int person, int mark) {
        return Check.thrownBy(() -> server.changes(person, mark)).equals("nothing");
    }

    /** The dates of a meeting as a person has them, lowest first. */
    static String dates(MeetingServer server, int person, int meeting) {
        return row(server.dates(person, meeting), place -> server.dateAt(person, meeting, place));
    }

    /** The open proposals for a meeting. */
    static String proposals(MeetingServer server, int meeting) {
        return row(server.proposals(meeting), place -> server.proposalAt(meeting, place));
    }

    /** The changes of a person since a mark. */
    static String changes(MeetingServer server, int person, int mark) {
        return row(server.changes(person, mark), place -> server.changeAt(person, mark, place));
    }

    private static String row(int count, IntUnaryOperator at) {
        StringBuilder text = new StringBuilder();
        for (int place = 0; place < count; place++) {
            text.append(place == 0 ? "" : " ").append(at.applyAsInt(place));
        }
        return text.toString();
    }

    /** A message as a line. */
    static String line(MeetingServer server, int message) {
        StringBuilder line = new StringBuilder();
        int length = server.lineLength(message);
        for (int place = 0; place < length; place++) {
            line.append(server.lineChar(message, place));
        }
        return line.toString();
    }

    /** The lines of the messages from one on. */
    static String lines(MeetingServer server, int from) {
        StringBuilder text = new StringBuilder();
        for (int message = from; message < server.messages(); message++) {
            text.append(message == from ? "" : ", ").append(line(server, message));
        }
        return text.toString();
    }
}
