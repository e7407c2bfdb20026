import java.util.Arrays;

/**
 * A server of meetings: zones whose clocks change, meetings that recur by rules, versions of them
 * that are sent, answers and proposals that come in any order, busy times, and marks of changes.
 */
public final class MeetingServer {
    /** There is none; as a day of an answer: all dates. */
    public static final int NONE = -1;
    /** Answers. */
    public static final int NEEDED = 0, ACCEPTED = 1, TENTATIVE = 2, DECLINED = 3, DELEGATED = 4;
    /** Kinds of messages. */
    public static final int REQUEST = 0, REPLY = 1, PROPOSAL = 2;
    /** What a person is at an hour. */
    public static final int FREE = 0, MAYBE = 1, BUSY = 2;

    private static final int ZONE_LIMIT = 3;
    private static final int PERSON_LIMIT = 5;
    private static final int MEETING_LIMIT = 8;
    private static final int MESSAGE_LIMIT = 150;
    private static final int GONE_LIMIT = 3;
    private static final int DAY_LIMIT = 60;
    private static final int DAY_HOURS = 24;
    private static final int WEEK_DAYS = 7;
    private static final int ALL_WEEKDAYS = 127;
    private static final int CLOCK_CHANGE_HOUR = 2;
    private static final int LOWEST_HOUR = -48;
    private static final int HIGHEST_HOUR = 1600;

    private final Zone[] zoneRow = new Zone[ZONE_LIMIT];
    private final Person[] personRow = new Person[PERSON_LIMIT];
    private final Meeting[] meetingRow = new Meeting[MEETING_LIMIT];
    private final Message[] messageRow = new Message[MESSAGE_LIMIT];
    private int meetingCount;
    private int messageCount;
    private int replyCount;
    /** Used again by each call that asks who is asked: to whom each person has delegated, or NONE. */
    private final int[] delegateRow = new int[PERSON_LIMIT];
    /** Used again by each call that looks at all hours: 1 where one of some people is BUSY. */
    private final byte[] busyRow = new byte[HIGHEST_HOUR - LOWEST_HOUR + 1];

    public MeetingServer() {
        for (int zone = 0; zone < ZONE_LIMIT; zone++) {
            zoneRow[zone] = new Zone();
        }
        for (int person = 0; person < PERSON_LIMIT; person++) {
            personRow[person] = new Person();
        }
    }

    // ---- zones

    public int setOffset(int zone, int offset) throws IndexOutOfBoundsException, IllegalArgumentException {
        Zone changed = zoneNumbered(zone);
        needRange(offset, -12, 12);
        int before = changed.offset;
        changed.offset = offset;
        return before;
    }

    public int setSummer(int zone, int first, int last) throws IndexOutOfBoundsException, IllegalArgumentException {
        Zone changed = zoneNumbered(zone);
        if (first != NONE) {
            needDay(first);
            needRange(last, first + 1, DAY_LIMIT);
        }
        int before = changed.summerFirst;
        changed.summerFirst = first;
        changed.summerLast = last;
        return before;
    }

    public int common(int zone, int local) throws IndexOutOfBoundsException, IllegalArgumentException {
        Zone asked = zoneNumbered(zone);
        needRange(local, -100, 2000);
        return asked.toCommon(local);
    }

    public int local(int zone, int hour) throws IndexOutOfBoundsException, IllegalArgumentException {
        Zone asked = zoneNumbered(zone);
        needRange(hour, -100, 2000);
        return asked.toLocal(hour);
    }

    // ---- what the organiser does

    public int make(int person, int zone, int day, int hour, int length) throws IndexOutOfBoundsException, IllegalArgumentException, IllegalStateException {
        needPerson(person);
        Zone clock = zoneNumbered(zone);
        needTime(day, hour, length);
        needState(meetingCount < MEETING_LIMIT);
        Meeting made = new Meeting(meetingCount, person, new Version(clock, day, hour, length));
        meetingRow[made.number] = made;
        meetingCount++;
        markEntry(person, made);
        return made.number;
    }

    public int time(int meeting, int day, int hour, int length) throws IndexOutOfBoundsException, IllegalArgumentException, IllegalStateException {
        Meeting changed = meetingNumbered(meeting);
        needTime(day, hour, length);
        needState(!changed.now.isCancelled);
        return putVersion(changed, changed.now.withTime(day, hour, length));
    }

    public int repeat(int meeting, int step, int weekdays, int count) throws IndexOutOfBoundsException, IllegalArgumentException, IllegalStateException {
        Meeting changed = meetingNumbered(meeting);
        needRange(step, 1, 28);
        needRange(weekdays, 1, ALL_WEEKDAYS);
        needRange(count, 1, 10);
        needState(!changed.now.isCancelled);
        return putVersion(changed, changed.now.withRule(step, weekdays, count));
    }

    public int drop(int meeting, int day) throws IndexOutOfBoundsException, IllegalArgumentException, IllegalStateException {
        Meeting changed = meetingNumbered(meeting);
        needDay(day);
        needState(!changed.now.isCancelled && changed.now.isDate(day));
        return putVersion(changed, changed.now.withoutDate(day));
    }

    public int add(int meeting, int day) throws IndexOutOfBoundsException, IllegalArgumentException, IllegalStateException {
        Meeting changed = meetingNumbered(meeting);
        needDay(day);
        needState(!changed.now.isCancelled && !changed.now.isDate(day));
        return putVersion(changed, changed.now.withDate(day));
    }

    public int move(int meeting, int day, int local) throws IndexOutOfBoundsException, IllegalArgumentException, IllegalStateException {
        Meeting changed = meetingNumbered(meeting);
        needDay(day);
        needDateHour(local);
        needState(!changed.now.isCancelled && changed.now.isDate(day));
        return putVersion(changed, changed.now.withMove(day, local));
    }

    public int invite(int meeting, int person, boolean isInvited) throws IndexOutOfBoundsException, IllegalArgumentException, IllegalStateException {
        Meeting changed = meetingNumbered(meeting);
        needPerson(person);
        needArgument(person != changed.organiser);
        Version now = changed.now;
        needState(!now.isCancelled && !isIn(isInvited ? now.invited : now.leftOut, person));
        return putVersion(changed, isInvited ? now.withInvited(person) : now.withLeftOut(person));
    }

    public int cancel(int meeting) throws IndexOutOfBoundsException, IllegalStateException {
        Meeting changed = meetingNumbered(meeting);
        needState(!changed.now.isCancelled);
        return putVersion(changed, changed.now.withCancel());
    }

    public int send(int meeting) throws IndexOutOfBoundsException, IllegalStateException {
        Meeting sent = meetingNumbered(meeting);
        int receivers = askedOf(sent) | sent.now.leftOut | sent.sentTo;
        int count = Integer.bitCount(receivers);
        needRoom(count);
        for (int person = 0; person < PERSON_LIMIT; person++) {
            if (isIn(receivers, person)) {
                putRequest(sent, sent.organiser, person, sent.now);
            }
        }
        sent.sentTo = receivers;
        return count;
    }

    public int take(int message) throws IndexOutOfBoundsException, IllegalStateException {
        Message taken = messageNumbered(message);
        needState(isOpen(taken));
        taken.isClosed = true;
        return putVersion(taken.meeting, taken.meeting.now.withMove(taken.day, taken.local));
    }

    public int refuse(int message) throws IndexOutOfBoundsException, IllegalStateException {
        Message refused = messageNumbered(message);
        needState(isOpen(refused));
        refused.isClosed = true;
        return openProposals(refused.meeting);
    }

    // ---- what others do

    public int answer(int person, int meeting, int day, int answer) throws IndexOutOfBoundsException, IllegalArgumentException, IllegalStateException {
        needPerson(person);
        Meeting answered = meetingNumbered(meeting);
        needArgument(day == NONE || isDay(day));
        needRange(answer, ACCEPTED, DECLINED);
        Version copy = copyThere(person, answered);
        needState(day == NONE || copy.isDate(day));
        needRoom(1);
        Message reply = new Message(REPLY, answered, person, answered.organiser, copy);
        reply.day = day;
        reply.answer = answer;
        return putReply(reply);
    }

    public int delegate(int person, int meeting, int other) throws IndexOutOfBoundsException, IllegalArgumentException, IllegalStateException {
        needPerson(person);
        needPerson(other);
        Meeting delegated = meetingNumbered(meeting);
        needArgument(other != person && other != delegated.organiser);
        Version copy = copyThere(person, delegated);
        needRoom(2);
        Message reply = new Message(REPLY, delegated, person, delegated.organiser, copy);
        reply.answer = DELEGATED;
        reply.other = other;
        int number = putReply(reply);
        putRequest(delegated, person, other, copy);
        return number;
    }

    public int propose(int person, int meeting, int day, int local) throws IndexOutOfBoundsException, IllegalArgumentException, IllegalStateException {
        needPerson(person);
        Meeting proposed = meetingNumbered(meeting);
        needDay(day);
        needDateHour(local);
        Version copy = copyThere(person, proposed);
        needState(copy.isDate(day));
        needRoom(1);
        Message proposal = new Message(PROPOSAL, proposed, person, proposed.organiser, copy);
        proposal.day = day;
        proposal.local = local;
        return putMessage(proposal);
    }

    // ---- messages

    public boolean deliver(int message) throws IndexOutOfBoundsException {
        Message delivered = messageNumbered(message);
        boolean isFirst = !delivered.isDelivered;
        delivered.isDelivered = true;
        switch (delivered.kind) {
            case REQUEST:
                return takeCopy(delivered);
            case REPLY:
                return keepReply(delivered);
            default:
                return isFirst;
        }
    }

    public int messages() {
        return messageCount;
    }

    public int kindOf(int message) throws IndexOutOfBoundsException {
        return messageNumbered(message).kind;
    }

    public int receiver(int message) throws IndexOutOfBoundsException {
        return messageNumbered(message).receiver;
    }

    public int lineLength(int message) throws IndexOutOfBoundsException {
        return lineOf(messageNumbered(message)).length();
    }

    public char lineChar(int message, int place) throws IndexOutOfBoundsException {
        StringBuilder line = lineOf(messageNumbered(message));
        needPlace(place, line.length());
        return line.charAt(place);
    }

    // ---- meetings, as a person has them

    public int meetings() {
        return meetingCount;
    }

    public boolean isThere(int person, int meeting) throws IndexOutOfBoundsException {
        needPerson(person);
        return meetingNumbered(meeting).versionThere(person) != null;
    }

    public int sequence(int person, int meeting) throws IndexOutOfBoundsException {
        needPerson(person);
        Version held = meetingNumbered(meeting).versionOf(person);
        return held == null ? NONE : held.sequence;
    }

    public int dates(int person, int meeting) throws IndexOutOfBoundsException {
        needPerson(person);
        Version held = meetingNumbered(meeting).versionThere(person);
        return held == null ? 0 : held.dateRow.length;
    }

    public int dateAt(int person, int meeting, int place) throws IndexOutOfBoundsException {
        needPerson(person);
        Version held = meetingNumbered(meeting).versionThere(person);
        if (held == null || place < 0 || place >= held.dateRow.length) {
            throw new IndexOutOfBoundsException();
        }
        return held.dateRow[place];
    }

    public int begin(int person, int meeting, int day) throws IndexOutOfBoundsException, IllegalArgumentException, IllegalStateException {
        needPerson(person);
        Meeting asked = meetingNumbered(meeting);
        needDay(day);
        return versionWithDate(person, asked, day).beginOf(day);
    }

    public int ownAnswer(int person, int meeting, int day) throws IndexOutOfBoundsException, IllegalArgumentException, IllegalStateException {
        needPerson(person);
        Meeting asked = meetingNumbered(meeting);
        needDay(day);
        return asked.answerAsOwn(person, versionWithDate(person, asked, day), day);
    }

    // ---- meetings, as the organiser knows them

    public boolean isAsked(int meeting, int person) throws IndexOutOfBoundsException {
        Meeting asked = meetingNumbered(meeting);
        needPerson(person);
        return isIn(askedOf(asked), person);
    }

    public int answerOf(int meeting, int person, int day) throws IndexOutOfBoundsException, IllegalArgumentException, IllegalStateException {
        Meeting asked = meetingNumbered(meeting);
        needPerson(person);
        needDay(day);
        needState(asked.now.isDate(day));
        return isIn(askedOf(asked), person) ? asked.answerAsKnown(person, day) : NONE;
    }

    public int answerByLog(int meeting, int person, int day) throws IndexOutOfBoundsException, IllegalArgumentException, IllegalStateException {
        Meeting asked = meetingNumbered(meeting);
        needPerson(person);
        needDay(day);
        needState(asked.now.isDate(day));
        if (!isIn(askedByLog(asked), person)) {
            return NONE;
        }
        Message forDay = newestInLog(asked, person, day);
        Message forAll = newestInLog(asked, person, NONE);
        return Message.answerBy(forDay, forAll, asked.now.standOf(day));
    }

    public boolean agrees(int meeting) throws IndexOutOfBoundsException {
        Meeting asked = meetingNumbered(meeting);
        if (asked.now.isCancelled) {
            return false;
        }
        int people = askedOf(asked);
        for (int person = 0; person < PERSON_LIMIT; person++) {
            if (isIn(people, person) && !asked.isAgreedWith(person)) {
                return false;
            }
        }
        return true;
    }

    public int proposals(int meeting) throws IndexOutOfBoundsException {
        return openProposals(meetingNumbered(meeting));
    }

    public int proposalAt(int meeting, int place) throws IndexOutOfBoundsException {
        Meeting asked = meetingNumbered(meeting);
        needPlace(place, openProposals(asked));
        int ahead = 0;
        int found = NONE;
        for (int number = 0; number < messageCount && found == NONE; number++) {
            Message message = messageRow[number];
            if (message.meeting == asked && isOpen(message)) {
                if (ahead == place) {
                    found = number;
                }
                ahead++;
            }
        }
        return found;
    }

    // ---- busy times

    public int rank(int person, int hour) throws IndexOutOfBoundsException, IllegalArgumentException {
        needPerson(person);
        needRange(hour, LOWEST_HOUR, HIGHEST_HOUR);
        int greatest = FREE;
        for (int number = 0; number < meetingCount; number++) {
            greatest = Math.max(greatest, rankIn(meetingRow[number], person, hour));
        }
        return greatest;
    }

    public int firstFree(int people, int from, int length) throws IllegalArgumentException {
        needSearch(people, from, length);
        int hour = from;
        int behind = behindBusy(people, hour, length);
        // each round goes at least one hour on, so there are fewer rounds than hours
        for (int round = LOWEST_HOUR; round < HIGHEST_HOUR && behind > hour; round++) {
            hour = behind;
            behind = behindBusy(people, hour, length);
        }
        return hour;
    }

    public int firstFreeByHours(int people, int from, int length) throws IllegalArgumentException {
        needSearch(people, from, length);
        paintBusyHours(people);
        int start = from;
        for (int hour = from; hour <= HIGHEST_HOUR && hour < start + length; hour++) {
            if (busyRow[hour - LOWEST_HOUR] == 1) {
                start = hour + 1;
            }
        }
        return start;
    }

    // ---- marks

    public int mark(int person) throws IndexOutOfBoundsException {
        needPerson(person);
        return personRow[person].mark;
    }

    public int changes(int person, int mark) throws IndexOutOfBoundsException, IllegalArgumentException, IllegalStateException {
        return personAskedFrom(person, mark).entriesAbove(mark);
    }

    public int changeAt(int person, int mark, int place) throws IndexOutOfBoundsException, IllegalArgumentException, IllegalStateException {
        Person asked = personAskedFrom(person, mark);
        needPlace(place, asked.entriesAbove(mark));
        int found = NONE;
        for (int number = 0; number < MEETING_LIMIT && found == NONE; number++) {
            int entry = asked.entryMarks[number];
            if (entry > mark && asked.entriesBetween(mark, entry) == place) {
                found = number;
            }
        }
        return found;
    }

    // ---- what a call needs

    private static void needPerson(int person) {
        if (person < 0 || person >= PERSON_LIMIT) {
            throw new IndexOutOfBoundsException();
        }
    }

    private static void needPlace(int place, int count) {
        if (place < 0 || place >= count) {
            throw new IndexOutOfBoundsException();
        }
    }

    private static void needArgument(boolean isRight) {
        if (!isRight) {
            throw new IllegalArgumentException();
        }
    }

    private static void needRange(int value, int lowest, int highest) {
        needArgument(value >= lowest && value <= highest);
    }

    private static void needDay(int day) {
        needArgument(isDay(day));
    }

    private static void needDateHour(int local) {
        needRange(local, 0, DAY_LIMIT * DAY_HOURS - 1);
    }

    private static void needTime(int day, int hour, int length) {
        needDay(day);
        needRange(hour, 0, DAY_HOURS - 1);
        needRange(length, 1, DAY_HOURS - 1);
    }

    private static void needSearch(int people, int from, int length) {
        needRange(people, 1, (1 << PERSON_LIMIT) - 1);
        needRange(from, LOWEST_HOUR, 1500);
        needRange(length, 1, 48);
    }

    private static void needState(boolean isRight) {
        if (!isRight) {
            throw new IllegalStateException();
        }
    }

    private void needRoom(int count) {
        needState(messageCount + count <= MESSAGE_LIMIT);
    }

    private static boolean isDay(int day) {
        return day >= 0 && day < DAY_LIMIT;
    }

    private static boolean isIn(int people, int person) {
        return (people >> person & 1) == 1;
    }

    private Zone zoneNumbered(int zone) {
        if (zone < 0 || zone >= ZONE_LIMIT) {
            throw new IndexOutOfBoundsException();
        }
        return zoneRow[zone];
    }

    private Meeting meetingNumbered(int meeting) {
        if (meeting < 0 || meeting >= meetingCount) {
            throw new IndexOutOfBoundsException();
        }
        return meetingRow[meeting];
    }

    private Message messageNumbered(int message) {
        if (message < 0 || message >= messageCount) {
            throw new IndexOutOfBoundsException();
        }
        return messageRow[message];
    }

    /** The copy of a person other than the organiser, who has none. */
    private static Version copyThere(int person, Meeting meeting) {
        Version copy = person == meeting.organiser ? null : meeting.versionThere(person);
        if (copy == null) {
            throw new IllegalStateException();
        }
        return copy;
    }

    private static Version versionWithDate(int person, Meeting meeting, int day) {
        Version held = meeting.versionThere(person);
        if (held == null || !held.isDate(day)) {
            throw new IllegalStateException();
        }
        return held;
    }

    private Person personAskedFrom(int person, int mark) {
        needPerson(person);
        Person asked = personRow[person];
        needRange(mark, 0, asked.mark);
        needState(mark >= asked.floor);
        return asked;
    }

    // ---- changes

    private int putVersion(Meeting meeting, Version next) {
        meeting.now = next;
        markEntry(meeting.organiser, meeting);
        return next.sequence;
    }

    /** To be called behind the change that it marks: what is gone counts as it is then. */
    private void markEntry(int person, Meeting meeting) {
        Person marked = personRow[person];
        marked.mark++;
        marked.entryMarks[meeting.number] = marked.mark;
        int gone = 0;
        int oldest = NONE;
        for (int number = 0; number < meetingCount; number++) {
            int entry = marked.entryMarks[number];
            if (entry > 0 && meetingRow[number].versionThere(person) == null) {
                gone++;
                oldest = oldest == NONE || entry < marked.entryMarks[oldest] ? number : oldest;
            }
        }
        if (gone > GONE_LIMIT) {
            marked.forget(oldest);
        }
    }

    private int putMessage(Message message) {
        int number = messageCount;
        if (number < MESSAGE_LIMIT) {
            messageRow[number] = message;
            messageCount++;
        }
        return number;
    }

    private void putRequest(Meeting meeting, int sender, int receiver, Version version) {
        putMessage(new Message(REQUEST, meeting, sender, receiver, version));
    }

    private int putReply(Message reply) {
        reply.stamp = replyCount;
        replyCount++;
        reply.meeting.own.keep(reply);
        markEntry(reply.sender, reply.meeting);
        return putMessage(reply);
    }

    private boolean takeCopy(Message request) {
        Meeting meeting = request.meeting;
        Version copy = meeting.versionOf(request.receiver);
        if (copy != null && copy.sequence >= request.version.sequence) {
            return false;
        }
        meeting.copyRow[request.receiver] = request.version;
        markEntry(request.receiver, meeting);
        return true;
    }

    private boolean keepReply(Message reply) {
        boolean isKept = reply.meeting.known.keep(reply);
        if (isKept) {
            markEntry(reply.receiver, reply.meeting);
        }
        return isKept;
    }

    // ---- what is found from what is held

    private int askedOf(Meeting meeting) {
        for (int person = 0; person < PERSON_LIMIT; person++) {
            delegateRow[person] = Message.delegateBy(meeting.known.keptFor(person, NONE));
        }
        return meeting.askedIf(delegateRow);
    }

    private int askedByLog(Meeting meeting) {
        for (int person = 0; person < PERSON_LIMIT; person++) {
            delegateRow[person] = Message.delegateBy(newestInLog(meeting, person, NONE));
        }
        return meeting.askedIf(delegateRow);
    }

    private Message newestInLog(Meeting meeting, int person, int day) {
        Message newest = null;
        for (int number = 0; number < messageCount; number++) {
            Message message = messageRow[number];
            if (message.kind == REPLY && message.isDelivered && message.meeting == meeting
                    && message.sender == person && message.day == day && message.isNewerThan(newest)) {
                newest = message;
            }
        }
        return newest;
    }

    private static boolean isOpen(Message message) {
        Version now = message.meeting.now;
        return message.kind == PROPOSAL && message.isDelivered && !message.isClosed && !now.isCancelled
                && now.isDate(message.day) && now.standOf(message.day) <= message.version.sequence;
    }

    private int openProposals(Meeting meeting) {
        int count = 0;
        for (int number = 0; number < messageCount; number++) {
            Message message = messageRow[number];
            if (message.meeting == meeting && isOpen(message)) {
                count++;
            }
        }
        return count;
    }

    private int rankIn(Meeting meeting, int person, int hour) {
        Version held = meeting.versionThere(person);
        int greatest = FREE;
        for (int place = 0; held != null && place < held.dateRow.length; place++) {
            int day = held.dateRow[place];
            int begin = held.beginOf(day);
            if (begin <= hour && hour < begin + held.length) {
                greatest = Math.max(greatest, meeting.rankByDate(person, held, day));
            }
        }
        return greatest;
    }

    /** The latest end of the busy times that meet the hours from one on for a length; this hour if none does. */
    private int behindBusy(int people, int hour, int length) {
        int latest = hour;
        for (int person = 0; person < PERSON_LIMIT; person++) {
            for (int number = 0; isIn(people, person) && number < meetingCount; number++) {
                latest = Math.max(latest, behindBusyIn(meetingRow[number], person, hour, length));
            }
        }
        return latest;
    }

    private int behindBusyIn(Meeting meeting, int person, int hour, int length) {
        Version held = meeting.versionThere(person);
        int latest = hour;
        for (int place = 0; held != null && place < held.dateRow.length; place++) {
            int day = held.dateRow[place];
            int begin = held.beginOf(day);
            int end = begin + held.length;
            if (begin < hour + length && end > latest && meeting.rankByDate(person, held, day) == BUSY) {
                latest = end;
            }
        }
        return latest;
    }

    private void paintBusyHours(int people) {
        Arrays.fill(busyRow, (byte) 0);
        for (int person = 0; person < PERSON_LIMIT; person++) {
            for (int number = 0; isIn(people, person) && number < meetingCount; number++) {
                paintBusyHoursIn(meetingRow[number], person);
            }
        }
    }

    private void paintBusyHoursIn(Meeting meeting, int person) {
        Version held = meeting.versionThere(person);
        for (int place = 0; held != null && place < held.dateRow.length; place++) {
            int day = held.dateRow[place];
            if (meeting.rankByDate(person, held, day) == BUSY) {
                paintHours(held.beginOf(day), held.length);
            }
        }
    }

    private void paintHours(int begin, int length) {
        for (int hour = begin; hour < begin + length; hour++) {
            if (hour >= LOWEST_HOUR && hour <= HIGHEST_HOUR) {
                busyRow[hour - LOWEST_HOUR] = 1;
            }
        }
    }

    // ---- lines

    private static StringBuilder lineOf(Message message) {
        StringBuilder line = new StringBuilder();
        line.append(kindName(message.kind));
        line.append(' ');
        line.append((char) ('a' + message.sender));
        line.append((char) ('a' + message.receiver));
        line.append(' ');
        line.append(message.meeting.number);
        line.append(' ');
        line.append(message.version.sequence);
        if (message.kind == REPLY) {
            line.append(' ');
            line.append(answerName(message.answer));
        }
        return line;
    }

    private static String kindName(int kind) {
        switch (kind) {
            case REQUEST:
                return "request";
            case REPLY:
                return "reply";
            default:
                return "proposal";
        }
    }

    private static String answerName(int answer) {
        switch (answer) {
            case ACCEPTED:
                return "accepted";
            case TENTATIVE:
                return "tentative";
            case DECLINED:
                return "declined";
            default:
                return "delegated";
        }
    }

    /** The clock of a zone. */
    private static final class Zone {
        int offset;
        int summerFirst = NONE;
        int summerLast = NONE;

        int toLocal(int hour) {
            return hour + offset + (isSummer(hour) ? 1 : 0);
        }

        /** The hour of the summer is tried first: of two hours with the same local one it is the earlier. */
        int toCommon(int local) {
            int inSummer = local - offset - 1;
            return isSummer(inSummer) ? inSummer : local - offset;
        }

        private boolean isSummer(int hour) {
            int plain = hour + offset;
            return summerFirst != NONE && plain >= clockChange(summerFirst) && plain < clockChange(summerLast);
        }

        private static int clockChange(int day) {
            return day * DAY_HOURS + CLOCK_CHANGE_HOUR;
        }
    }

    /** The marks of a person. */
    private static final class Person {
        int mark;
        int floor;
        /** By the meeting; 0 where there is no entry, or where it is forgotten. */
        final int[] entryMarks = new int[MEETING_LIMIT];

        int entriesAbove(int asked) {
            return entriesBetween(asked, mark + 1);
        }

        int entriesBetween(int above, int below) {
            int count = 0;
            for (int number = 0; number < MEETING_LIMIT; number++) {
                if (entryMarks[number] > above && entryMarks[number] < below) {
                    count++;
                }
            }
            return count;
        }

        void forget(int number) {
            if (number >= 0 && number < MEETING_LIMIT) {
                floor = entryMarks[number];
                entryMarks[number] = 0;
            }
        }
    }

    /** What holds for a meeting from one change to the next; it never changes once it is handed out. */
    private static final class Version {
        final int sequence;
        private final Zone zone;
        private int firstDay;
        private int hour;
        int length;
        private int step = 1;
        private int weekdays = ALL_WEEKDAYS;
        private int count = 1;
        /** Sets of days: 1 is shifted by the day. */
        private long added;
        private long dropped;
        private long dates;
        /** The days that are dates, lowest first. */
        int[] dateRow;
        /** By the day: the local hour to which it was moved, or NONE. Versions share rows, so a change takes a new one. */
        private int[] movedRow;
        private int[] standRow;
        /** Sets of people: 1 is shifted by the person. */
        int invited;
        int leftOut;
        boolean isCancelled;

        Version(Zone zone, int firstDay, int hour, int length) {
            this.sequence = 0;
            this.zone = zone;
            this.firstDay = firstDay;
            this.hour = hour;
            this.length = length;
            this.movedRow = rowOf(NONE);
            this.standRow = rowOf(0);
            findDates();
        }

        private Version(Version before) {
            this.sequence = before.sequence + 1;
            this.zone = before.zone;
            this.firstDay = before.firstDay;
            this.hour = before.hour;
            this.length = before.length;
            this.step = before.step;
            this.weekdays = before.weekdays;
            this.count = before.count;
            this.added = before.added;
            this.dropped = before.dropped;
            this.dates = before.dates;
            this.dateRow = before.dateRow;
            this.movedRow = before.movedRow;
            this.standRow = before.standRow;
            this.invited = before.invited;
            this.leftOut = before.leftOut;
            this.isCancelled = before.isCancelled;
        }

        Version withTime(int newFirstDay, int newHour, int newLength) {
            Version next = new Version(this);
            next.firstDay = newFirstDay;
            next.hour = newHour;
            next.length = newLength;
            next.standRow = rowOf(next.sequence);
            next.findDates();
            return next;
        }

        Version withRule(int newStep, int newWeekdays, int newCount) {
            Version next = new Version(this);
            next.step = newStep;
            next.weekdays = newWeekdays;
            next.count = newCount;
            next.standRow = rowOf(next.sequence);
            next.findDates();
            return next;
        }

        Version withoutDate(int day) {
            Version next = new Version(this);
            next.added &= ~(1L << day);
            next.dropped |= 1L << day;
            next.putMoved(day, NONE);
            next.findDates();
            return next;
        }

        Version withDate(int day) {
            Version next = new Version(this);
            next.added |= 1L << day;
            next.dropped &= ~(1L << day);
            next.putStand(day);
            next.findDates();
            return next;
        }

        Version withMove(int day, int local) {
            Version next = new Version(this);
            next.putMoved(day, local);
            next.putStand(day);
            return next;
        }

        Version withInvited(int person) {
            Version next = new Version(this);
            next.invited |= 1 << person;
            next.leftOut &= ~(1 << person);
            return next;
        }

        Version withLeftOut(int person) {
            Version next = new Version(this);
            next.invited &= ~(1 << person);
            next.leftOut |= 1 << person;
            return next;
        }

        Version withCancel() {
            Version next = new Version(this);
            next.isCancelled = true;
            return next;
        }

        boolean isDate(int day) {
            return isDay(day) && (dates >> day & 1L) == 1L;
        }

        int standOf(int day) {
            return isDay(day) ? standRow[day] : 0;
        }

        int beginOf(int day) {
            int moved = isDay(day) ? movedRow[day] : NONE;
            return zone.toCommon(moved == NONE ? day * DAY_HOURS + hour : moved);
        }

        private void putMoved(int day, int local) {
            if (isDay(day) && movedRow[day] != local) {
                movedRow = movedRow.clone();
                movedRow[day] = local;
            }
        }

        private void putStand(int day) {
            if (isDay(day)) {
                standRow = standRow.clone();
                standRow[day] = sequence;
            }
        }

        private static int[] rowOf(int value) {
            int[] row = new int[DAY_LIMIT];
            Arrays.fill(row, value);
            return row;
        }

        private void findDates() {
            dates = added | daysOfRule() & ~dropped;
            int[] row = new int[Long.bitCount(dates)];
            int place = 0;
            for (int day = 0; day < DAY_LIMIT; day++) {
                if (isDate(day) && place < row.length) {
                    row[place] = day;
                    place++;
                }
            }
            dateRow = row;
        }

        private long daysOfRule() {
            long days = 0L;
            int left = count;
            int next = firstDay;
            for (int day = 0; day < DAY_LIMIT; day++) {
                if (day == next) {
                    next += step;
                    if (left > 0 && (weekdays >> day % WEEK_DAYS & 1) == 1) {
                        days |= 1L << day;
                        left--;
                    }
                }
            }
            return days;
        }
    }

    /** A meeting: its version of now, the copies of it, and the replies for it. */
    private static final class Meeting {
        final int number;
        final int organiser;
        Version now;
        /** By the person; null where the person has no copy. */
        final Version[] copyRow = new Version[PERSON_LIMIT];
        /** The people to whom send() has sent a request. */
        int sentTo;
        /** The replies that the organiser keeps. */
        final ReplyBook known = new ReplyBook();
        /** The replies as those who have made them know them. */
        final ReplyBook own = new ReplyBook();

        Meeting(int number, int organiser, Version first) {
            this.number = number;
            this.organiser = organiser;
            this.now = first;
        }

        Version versionOf(int person) {
            if (person < 0 || person >= PERSON_LIMIT) {
                return null;
            }
            return person == organiser ? now : copyRow[person];
        }

        /** The version that a person has, if it is there; otherwise null. The organiser is never left out. */
        Version versionThere(int person) {
            Version held = versionOf(person);
            return held == null || held.isCancelled || isIn(held.leftOut, person) ? null : held;
        }

        int answerAsKnown(int person, int day) {
            return known.answerFor(person, day, now.standOf(day));
        }

        int answerAsOwn(int person, Version held, int day) {
            return person == organiser ? ACCEPTED : own.answerFor(person, day, held.standOf(day));
        }

        int rankByDate(int person, Version held, int day) {
            if (person == organiser) {
                return BUSY;
            }
            switch (own.answerFor(person, day, held.standOf(day))) {
                case ACCEPTED:
                    return BUSY;
                case TENTATIVE:
                    return MAYBE;
                default:
                    return FREE;
            }
        }

        boolean isAgreedWith(int person) {
            Version held = versionThere(person);
            if (held == null || held.sequence != now.sequence) {
                return false;
            }
            for (int place = 0; place < now.dateRow.length; place++) {
                int day = now.dateRow[place];
                if (answerAsOwn(person, held, day) != answerAsKnown(person, day)) {
                    return false;
                }
            }
            return true;
        }

        /** Those who are asked, if each person has delegated to the one in the row, or to NONE. */
        int askedIf(int[] delegates) {
            int asked = now.invited;
            // a chain of delegates has fewer links than there are people
            for (int round = 0; round < PERSON_LIMIT; round++) {
                for (int person = 0; person < delegates.length; person++) {
                    int other = delegates[person];
                    if (other != NONE && isIn(asked, person) && !isIn(now.leftOut, other)) {
                        asked |= 1 << other;
                    }
                }
            }
            return asked;
        }
    }

    /** Of each person the newest reply for all dates, and the newest one for each date. */
    private static final class ReplyBook {
        private static final int SLOTS_EACH = DAY_LIMIT + 1;

        private final Message[] keptRow = new Message[PERSON_LIMIT * SLOTS_EACH];

        /** Tells whether the reply came to be kept: not if it or a newer one was kept already. */
        boolean keep(Message reply) {
            int slot = slotOf(reply.sender, reply.day);
            if (slot < 0 || slot >= keptRow.length || !reply.isNewerThan(keptRow[slot])) {
                return false;
            }
            keptRow[slot] = reply;
            return true;
        }

        Message keptFor(int person, int day) {
            int slot = slotOf(person, day);
            return slot < 0 || slot >= keptRow.length ? null : keptRow[slot];
        }

        int answerFor(int person, int day, int stand) {
            return Message.answerBy(keptFor(person, day), keptFor(person, NONE), stand);
        }

        /** NONE is 1 below the first day: the reply for all dates stands ahead of those for each one. */
        private static int slotOf(int person, int day) {
            return person * SLOTS_EACH + day - NONE;
        }
    }

    /** A message; the version is the one that a request brings, or the copy of the sender of another kind. */
    private static final class Message {
        final int kind;
        final Meeting meeting;
        final int sender;
        final int receiver;
        final Version version;
        int day = NONE;
        int local = NONE;
        int answer = NEEDED;
        /** To whom a reply delegates. */
        int other = NONE;
        int stamp;
        boolean isDelivered;
        /** Whether a proposal was refused or taken. */
        boolean isClosed;

        Message(int kind, Meeting meeting, int sender, int receiver, Version version) {
            this.kind = kind;
            this.meeting = meeting;
            this.sender = sender;
            this.receiver = receiver;
            this.version = version;
        }

        boolean isNewerThan(Message reply) {
            if (reply == null || version.sequence != reply.version.sequence) {
                return reply == null || version.sequence > reply.version.sequence;
            }
            return stamp > reply.stamp;
        }

        static int delegateBy(Message forAll) {
            return forAll == null ? NONE : forAll.other;
        }

        static int answerBy(Message forDay, Message forAll, int stand) {
            Message told = null;
            if (forDay != null && forDay.version.sequence >= stand) {
                told = forDay;
            }
            if (forAll != null && forAll.version.sequence >= stand && forAll.isNewerThan(told)) {
                told = forAll;
            }
            return told == null ? NEEDED : told.answer;
        }
    }
}
