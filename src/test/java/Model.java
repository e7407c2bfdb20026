import java.util.ArrayList;
import java.util.Comparator;
import java.util.HashMap;
import java.util.List;
import java.util.Map;
import java.util.Objects;
import java.util.Optional;
import java.util.Set;
import java.util.TreeMap;
import java.util.TreeSet;
import java.util.stream.Collectors;
import java.util.stream.IntStream;

/**
 * The document a second time, in another way and without regard for cost: it keeps what was done, and
 * finds each answer by going through all of it. ModelTest holds the program against it.
 */
final class Model {
    static final int NONE = -1, NEEDED = 0, ACCEPTED = 1, TENTATIVE = 2, DECLINED = 3, DELEGATED = 4;
    static final int REQUEST = 0, REPLY = 1, PROPOSAL = 2;

    /** A change by the organiser; what a, b and c are depends on the kind. */
    record Change(String kind, int a, int b, int c) {
    }

    /** What the changes up to a version come to. */
    static final class State {
        int first, hour, length, step = 1, weekdays = 127, count = 1;
        final Set<Integer> added = new TreeSet<>(), dropped = new TreeSet<>();
        final Set<Integer> invited = new TreeSet<>(), leftOut = new TreeSet<>();
        final Map<Integer, Integer> moved = new HashMap<>(), stands = new HashMap<>();
        boolean cancelled;

        Set<Integer> dates() {
            Set<Integer> days = IntStream.iterate(first, day -> day + step).takeWhile(day -> day <= 59)
                    .filter(day -> (weekdays & (int) Math.pow(2, day % 7)) != 0)
                    .limit(count).boxed().collect(Collectors.toCollection(TreeSet::new));
            days.removeAll(dropped);
            days.addAll(added);
            return days;
        }

        int stand(int day) {
            return stands.getOrDefault(day, 0);
        }
    }

    static final class Gathering {
        int number, organiser, zone;
        final List<Change> changes = new ArrayList<>();
        final Map<Integer, Integer> copies = new HashMap<>();
        final Set<Integer> sentTo = new TreeSet<>();

        int sequence() {
            return changes.size() - 1;
        }

        State at(int sequence) {
            State state = new State();
            for (int s = 0; s <= sequence; s++) {
                play(state, changes.get(s), s);
            }
            return state;
        }

        State now() {
            return at(sequence());
        }

        private static void play(State state, Change change, int sequence) {
            switch (change.kind) {
                case "time" -> {
                    state.first = change.a;
                    state.hour = change.b;
                    state.length = change.c;
                    standAll(state, sequence);
                }
                case "rule" -> {
                    state.step = change.a;
                    state.weekdays = change.b;
                    state.count = change.c;
                    standAll(state, sequence);
                }
                case "drop" -> {
                    state.dropped.add(change.a);
                    state.added.remove(change.a);
                    state.moved.remove(change.a);
                }
                case "add" -> {
                    state.added.add(change.a);
                    state.dropped.remove(change.a);
                    state.stands.put(change.a, sequence);
                }
                case "move" -> {
                    state.moved.put(change.a, change.b);
                    state.stands.put(change.a, sequence);
                }
                case "invite" -> {
                    state.invited.add(change.a);
                    state.leftOut.remove(change.a);
                }
                case "leave out" -> {
                    state.leftOut.add(change.a);
                    state.invited.remove(change.a);
                }
                case "cancel" -> state.cancelled = true;
                default -> throw new AssertionError(change.kind);
            }
        }

        private static void standAll(State state, int sequence) {
            IntStream.rangeClosed(0, 59).forEach(day -> state.stands.put(day, sequence));
        }
    }

    static final class Mail {
        int number, kind, sender, receiver, sequence, day = NONE, answer, other = NONE, stamp, local;
        Gathering about;
        boolean delivered, ended;
    }

    private final int[] offsets = new int[3];
    private final int[][] summers = {{NONE, 0}, {NONE, 0}, {NONE, 0}};
    private final List<Gathering> gatherings = new ArrayList<>();
    private final List<Mail> mails = new ArrayList<>();
    private final int[] marks = new int[5], floors = new int[5];
    /** Of each person the entries: the meeting by its mark. */
    private final List<TreeMap<Integer, Integer>> entries = new ArrayList<>();

    Model() {
        for (int person = 0; person < 5; person++) {
            entries.add(new TreeMap<>());
        }
    }

    // ---- needs

    private static void place(boolean isThere) {
        if (!isThere) {
            throw new IndexOutOfBoundsException();
        }
    }

    private static void argument(boolean isRight) {
        if (!isRight) {
            throw new IllegalArgumentException();
        }
    }

    private static void state(boolean isRight) {
        if (!isRight) {
            throw new IllegalStateException();
        }
    }

    private static boolean within(int value, int low, int high) {
        return low <= value && value <= high;
    }

    private static void person(int person) {
        place(within(person, 0, 4));
    }

    private static void zone(int zone) {
        place(within(zone, 0, 2));
    }

    private Gathering gathering(int meeting) {
        place(within(meeting, 0, gatherings.size() - 1));
        return gatherings.get(meeting);
    }

    private Mail mail(int message) {
        place(within(message, 0, mails.size() - 1));
        return mails.get(message);
    }

    private static void day(int day) {
        argument(within(day, 0, 59));
    }

    // ---- zones

    int setOffset(int zone, int offset) {
        zone(zone);
        argument(within(offset, -12, 12));
        int before = offsets[zone];
        offsets[zone] = offset;
        return before;
    }

    int setSummer(int zone, int first, int last) {
        zone(zone);
        argument(first == NONE || within(first, 0, 59) && within(last, first + 1, 60));
        int before = summers[zone][0];
        summers[zone] = new int[] {first, last};
        return before;
    }

    private int tell(int zone, int hour) {
        int first = summers[zone][0], last = summers[zone][1];
        if (first == NONE) {
            return hour + offsets[zone];
        }
        int begin = 24 * first + 2 - offsets[zone];
        int end = 24 * last + 2 - offsets[zone];
        return hour + offsets[zone] + (within(hour, begin, end - 1) ? 1 : 0);
    }

    private int find(int zone, int local) {
        for (int hour = local - 20; hour <= local + 20; hour++) {
            if (tell(zone, hour) == local) {
                return hour;
            }
        }
        for (int hour = local - 20; hour <= local + 20; hour++) {
            if (tell(zone, hour - 1) < local && tell(zone, hour) > local) {
                return hour;
            }
        }
        throw new AssertionError();
    }

    int common(int zone, int local) {
        zone(zone);
        argument(within(local, -100, 2000));
        return find(zone, local);
    }

    int local(int zone, int hour) {
        zone(zone);
        argument(within(hour, -100, 2000));
        return tell(zone, hour);
    }

    // ---- what the organiser does

    private int change(Gathering gathering, String kind, int a, int b, int c) {
        gathering.changes.add(new Change(kind, a, b, c));
        markUp(gathering.organiser, gathering);
        return gathering.sequence();
    }

    int make(int person, int zone, int day, int hour, int length) {
        person(person);
        zone(zone);
        argument(within(day, 0, 59) && within(hour, 0, 23) && within(length, 1, 23));
        state(gatherings.size() < 8);
        Gathering made = new Gathering();
        made.number = gatherings.size();
        made.organiser = person;
        made.zone = zone;
        gatherings.add(made);
        change(made, "time", day, hour, length);
        return made.number;
    }

    int time(int meeting, int day, int hour, int length) {
        Gathering changed = gathering(meeting);
        argument(within(day, 0, 59) && within(hour, 0, 23) && within(length, 1, 23));
        state(!changed.now().cancelled);
        return change(changed, "time", day, hour, length);
    }

    int repeat(int meeting, int step, int weekdays, int count) {
        Gathering changed = gathering(meeting);
        argument(within(step, 1, 28) && within(weekdays, 1, 127) && within(count, 1, 10));
        state(!changed.now().cancelled);
        return change(changed, "rule", step, weekdays, count);
    }

    int drop(int meeting, int day) {
        Gathering changed = gathering(meeting);
        day(day);
        state(!changed.now().cancelled && changed.now().dates().contains(day));
        return change(changed, "drop", day, 0, 0);
    }

    int add(int meeting, int day) {
        Gathering changed = gathering(meeting);
        day(day);
        state(!changed.now().cancelled && !changed.now().dates().contains(day));
        return change(changed, "add", day, 0, 0);
    }

    int move(int meeting, int day, int local) {
        Gathering changed = gathering(meeting);
        argument(within(day, 0, 59) && within(local, 0, 1439));
        state(!changed.now().cancelled && changed.now().dates().contains(day));
        return change(changed, "move", day, local, 0);
    }

    int invite(int meeting, int person, boolean isInvited) {
        Gathering changed = gathering(meeting);
        person(person);
        argument(person != changed.organiser);
        State now = changed.now();
        state(!now.cancelled && !(isInvited ? now.invited : now.leftOut).contains(person));
        return change(changed, isInvited ? "invite" : "leave out", person, 0, 0);
    }

    int cancel(int meeting) {
        Gathering changed = gathering(meeting);
        state(!changed.now().cancelled);
        return change(changed, "cancel", 0, 0, 0);
    }

    int send(int meeting) {
        Gathering sent = gathering(meeting);
        Set<Integer> receivers = new TreeSet<>(asked(sent));
        receivers.addAll(sent.now().leftOut);
        receivers.addAll(sent.sentTo);
        state(mails.size() + receivers.size() <= 150);
        for (int receiver : receivers) {
            request(sent, sent.organiser, receiver, sent.sequence());
        }
        sent.sentTo.addAll(receivers);
        return receivers.size();
    }

    int take(int message) {
        Mail taken = mail(message);
        state(isOpen(taken));
        taken.ended = true;
        return move(taken.about.number, taken.day, taken.local);
    }

    int refuse(int message) {
        Mail refused = mail(message);
        state(isOpen(refused));
        refused.ended = true;
        return proposals(refused.about.number);
    }

    // ---- what others do

    private Mail write(int kind, Gathering about, int sender, int receiver, int sequence) {
        Mail mail = new Mail();
        mail.number = mails.size();
        mail.kind = kind;
        mail.about = about;
        mail.sender = sender;
        mail.receiver = receiver;
        mail.sequence = sequence;
        return mail;
    }

    private void request(Gathering about, int sender, int receiver, int sequence) {
        mails.add(write(REQUEST, about, sender, receiver, sequence));
    }

    private int reply(Gathering about, int sender, int day, int answer, int other) {
        Mail reply = write(REPLY, about, sender, about.organiser, about.copies.get(sender));
        reply.day = day;
        reply.answer = answer;
        reply.other = other;
        reply.stamp = (int) mails.stream().filter(mail -> mail.kind == REPLY).count();
        mails.add(reply);
        markUp(sender, about);
        return reply.number;
    }

    int answer(int person, int meeting, int day, int answer) {
        person(person);
        Gathering about = gathering(meeting);
        argument(within(day, NONE, 59) && within(answer, ACCEPTED, DECLINED));
        state(person != about.organiser && has(person, about));
        state(day == NONE || stateOf(person, about).dates().contains(day));
        state(mails.size() < 150);
        return reply(about, person, day, answer, NONE);
    }

    int delegate(int person, int meeting, int other) {
        person(person);
        person(other);
        Gathering about = gathering(meeting);
        argument(other != person && other != about.organiser);
        state(person != about.organiser && has(person, about));
        state(mails.size() + 2 <= 150);
        int number = reply(about, person, NONE, DELEGATED, other);
        request(about, person, other, about.copies.get(person));
        return number;
    }

    int propose(int person, int meeting, int day, int local) {
        person(person);
        Gathering about = gathering(meeting);
        argument(within(day, 0, 59) && within(local, 0, 1439));
        state(person != about.organiser && has(person, about));
        state(stateOf(person, about).dates().contains(day));
        state(mails.size() < 150);
        Mail proposal = write(PROPOSAL, about, person, about.organiser, about.copies.get(person));
        proposal.day = day;
        proposal.local = local;
        mails.add(proposal);
        return proposal.number;
    }

    // ---- messages

    boolean deliver(int message) {
        Mail mail = mail(message);
        Gathering about = mail.about;
        boolean wasDelivered = mail.delivered;
        if (mail.kind == PROPOSAL) {
            mail.delivered = true;
            return !wasDelivered;
        }
        if (mail.kind == REQUEST) {
            mail.delivered = true;
            Integer copy = about.copies.get(mail.receiver);
            if (copy != null && copy >= mail.sequence) {
                return false;
            }
            about.copies.put(mail.receiver, mail.sequence);
            markUp(mail.receiver, about);
            return true;
        }
        Mail before = kept(about, mail.sender, mail.day).orElse(null);
        mail.delivered = true;
        boolean isNew = kept(about, mail.sender, mail.day).orElse(null) != before;
        if (isNew) {
            markUp(mail.receiver, about);
        }
        return isNew;
    }

    boolean isDelivered(int message) {
        return mail(message).delivered;
    }

    int messages() {
        return mails.size();
    }

    int kindOf(int message) {
        return mail(message).kind;
    }

    int receiver(int message) {
        return mail(message).receiver;
    }

    private String line(Mail mail) {
        String[] kinds = {"request", "reply", "proposal"};
        String[] answers = {"", " accepted", " tentative", " declined", " delegated"};
        return kinds[mail.kind] + " " + "abcde".charAt(mail.sender) + "abcde".charAt(mail.receiver) + " "
                + mail.about.number + " " + mail.sequence + (mail.kind == REPLY ? answers[mail.answer] : "");
    }

    int lineLength(int message) {
        return line(mail(message)).length();
    }

    char lineChar(int message, int place) {
        String line = line(mail(message));
        place(within(place, 0, line.length() - 1));
        return line.charAt(place);
    }

    // ---- meetings, as a person has them

    int meetings() {
        return gatherings.size();
    }

    private State stateOf(int person, Gathering about) {
        if (person == about.organiser) {
            return about.now();
        }
        Integer copy = about.copies.get(person);
        return copy == null ? null : about.at(copy);
    }

    private boolean has(int person, Gathering about) {
        State state = stateOf(person, about);
        return state != null && !state.cancelled && !state.leftOut.contains(person);
    }

    boolean isThere(int person, int meeting) {
        person(person);
        return has(person, gathering(meeting));
    }

    int sequence(int person, int meeting) {
        person(person);
        Gathering about = gathering(meeting);
        return person == about.organiser ? about.sequence() : about.copies.getOrDefault(person, NONE);
    }

    private List<Integer> datesOf(int person, Gathering about) {
        return has(person, about) ? new ArrayList<>(stateOf(person, about).dates()) : List.of();
    }

    int dates(int person, int meeting) {
        person(person);
        return datesOf(person, gathering(meeting)).size();
    }

    int dateAt(int person, int meeting, int place) {
        person(person);
        List<Integer> dates = datesOf(person, gathering(meeting));
        place(within(place, 0, dates.size() - 1));
        return dates.get(place);
    }

    private int beginOf(Gathering about, State state, int day) {
        return find(about.zone, state.moved.getOrDefault(day, 24 * day + state.hour));
    }

    int begin(int person, int meeting, int day) {
        person(person);
        Gathering about = gathering(meeting);
        day(day);
        state(datesOf(person, about).contains(day));
        return beginOf(about, stateOf(person, about), day);
    }

    int ownAnswer(int person, int meeting, int day) {
        person(person);
        Gathering about = gathering(meeting);
        day(day);
        state(datesOf(person, about).contains(day));
        return own(person, about, day);
    }

    private int own(int person, Gathering about, int day) {
        return person == about.organiser ? ACCEPTED
                : told(about, person, day, stateOf(person, about).stand(day), false);
    }

    // ---- meetings, as the organiser knows them

    private static final Comparator<Mail> BY_AGE =
            Comparator.comparingInt((Mail mail) -> mail.sequence).thenComparingInt(mail -> mail.stamp);

    private Optional<Mail> kept(Gathering about, int person, int day) {
        return mails.stream().filter(mail -> mail.delivered && mail.kind == REPLY && mail.about == about
                && mail.sender == person && mail.day == day).max(BY_AGE);
    }

    private int told(Gathering about, int person, int day, int stand, boolean onlyDelivered) {
        return mails.stream().filter(mail -> mail.kind == REPLY && mail.about == about && mail.sender == person
                        && (mail.day == day || mail.day == NONE) && (mail.delivered || !onlyDelivered)
                        && mail.sequence >= stand)
                .max(BY_AGE).map(mail -> mail.answer).orElse(NEEDED);
    }

    private Set<Integer> asked(Gathering about) {
        State now = about.now();
        Set<Integer> asked = new TreeSet<>(now.invited);
        List<Integer> toDo = new ArrayList<>(now.invited);
        while (!toDo.isEmpty()) {
            int person = toDo.remove(0);
            Optional<Mail> reply = kept(about, person, NONE).filter(mail -> mail.answer == DELEGATED);
            if (reply.isPresent() && !now.leftOut.contains(reply.get().other) && asked.add(reply.get().other)) {
                toDo.add(reply.get().other);
            }
        }
        return asked;
    }

    boolean isAsked(int meeting, int person) {
        Gathering about = gathering(meeting);
        person(person);
        return asked(about).contains(person);
    }

    int answerOf(int meeting, int person, int day) {
        Gathering about = gathering(meeting);
        person(person);
        day(day);
        state(about.now().dates().contains(day));
        return asked(about).contains(person) ? told(about, person, day, about.now().stand(day), true) : NONE;
    }

    int answerByLog(int meeting, int person, int day) {
        return answerOf(meeting, person, day);
    }

    boolean agrees(int meeting) {
        Gathering about = gathering(meeting);
        return !about.now().cancelled && asked(about).stream().allMatch(person -> has(person, about)
                && Objects.equals(about.copies.get(person), about.sequence())
                && about.now().dates().stream().allMatch(day ->
                        own(person, about, day) == answerOf(meeting, person, day)));
    }

    private boolean isOpen(Mail mail) {
        State now = mail.about.now();
        return mail.kind == PROPOSAL && mail.delivered && !mail.ended && !now.cancelled
                && now.dates().contains(mail.day) && now.stand(mail.day) <= mail.sequence;
    }

    private List<Mail> open(Gathering about) {
        return mails.stream().filter(mail -> mail.about == about && isOpen(mail)).toList();
    }

    int proposals(int meeting) {
        return open(gathering(meeting)).size();
    }

    int proposalAt(int meeting, int place) {
        List<Mail> open = open(gathering(meeting));
        place(within(place, 0, open.size() - 1));
        return open.get(place).number;
    }

    // ---- busy times

    /** Of each hour that is not free what the person is then. */
    private Map<Integer, Integer> hoursOf(int person) {
        Map<Integer, Integer> hours = new HashMap<>();
        for (Gathering about : gatherings) {
            for (int day : datesOf(person, about)) {
                State state = stateOf(person, about);
                int answer = own(person, about, day);
                int rank = answer == ACCEPTED ? 2 : answer == TENTATIVE ? 1 : 0;
                int begin = beginOf(about, state, day);
                IntStream.range(begin, begin + state.length).forEach(hour -> hours.merge(hour, rank, Math::max));
            }
        }
        return hours;
    }

    int rank(int person, int hour) {
        person(person);
        argument(within(hour, -48, 1600));
        return hoursOf(person).getOrDefault(hour, 0);
    }

    int firstFree(int people, int from, int length) {
        argument(within(people, 1, 31) && within(from, -48, 1500) && within(length, 1, 48));
        Set<Integer> busy = new TreeSet<>();
        for (int person = 0; person < 5; person++) {
            if ((people >> person) % 2 == 1) {
                hoursOf(person).forEach((hour, rank) -> {
                    if (rank == 2) {
                        busy.add(hour);
                    }
                });
            }
        }
        return IntStream.iterate(from, hour -> hour + 1)
                .filter(hour -> IntStream.range(hour, hour + length).noneMatch(busy::contains))
                .findFirst().getAsInt();
    }

    int firstFreeByHours(int people, int from, int length) {
        return firstFree(people, from, length);
    }

    // ---- marks

    private void markUp(int person, Gathering about) {
        TreeMap<Integer, Integer> mine = entries.get(person);
        mine.values().remove(about.number);
        mine.put(++marks[person], about.number);
        List<Integer> gone = mine.keySet().stream()
                .filter(mark -> !has(person, gatherings.get(mine.get(mark)))).toList();
        if (gone.size() > 3) {
            mine.remove(gone.get(0));
            floors[person] = gone.get(0);
        }
    }

    int mark(int person) {
        person(person);
        return marks[person];
    }

    private List<Integer> above(int person, int mark) {
        person(person);
        argument(within(mark, 0, marks[person]));
        state(mark >= floors[person]);
        return new ArrayList<>(entries.get(person).tailMap(mark, false).values());
    }

    int changes(int person, int mark) {
        return above(person, mark).size();
    }

    int changeAt(int person, int mark, int place) {
        List<Integer> above = above(person, mark);
        place(within(place, 0, above.size() - 1));
        return above.get(place);
    }
}
