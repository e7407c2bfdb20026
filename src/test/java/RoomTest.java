import com.sun.management.ThreadMXBean;
import java.lang.management.ManagementFactory;
import java.lang.reflect.Modifier;
import java.util.LinkedHashMap;
import java.util.Map;
import java.util.Set;
import java.util.TreeSet;
import java.util.function.Consumer;
import java.util.function.Supplier;
import java.util.stream.Collectors;
import java.util.stream.Stream;

/**
 * All calls of a run live in one room, of which nothing is given back. An object of the machine has 16 bytes or more,
 * a field or an element one or more: so calls that make no more bytes than the limit here, 512 of them, make fewer
 * than 600000 objects, and fewer than 7.3 million fields and elements.
 */
public final class RoomTest {
    private static final Check CHECK = new Check("RoomTest");
    private static final ThreadMXBean COUNTER = (ThreadMXBean) ManagementFactory.getThreadMXBean();
    private static final long LIMIT = 8192;
    private static final int NONE = MeetingServer.NONE;

    private static final Map<String, Long> MADE = new LinkedHashMap<>();

    private RoomTest() {
    }

    public static void main(String[] args) {
        madeBy("new", () -> null, nothing -> new MeetingServer());
        zones();
        organiser();
        others();
        messages();
        questions();
        MADE.forEach((name, bytes) -> CHECK.due(name + " makes few enough bytes: " + bytes, bytes <= LIMIT, true));
        CHECK.due("make is seen to make something", MADE.get("make") > 0, true);
        Set<String> face = Stream.of(MeetingServer.class.getDeclaredMethods())
                .filter(method -> Modifier.isPublic(method.getModifiers())).map(method -> method.getName())
                .collect(Collectors.toCollection(TreeSet::new));
        face.add("new");
        CHECK.due("calls that are measured", new TreeSet<>(MADE.keySet()), face);
        CHECK.end();
    }

    /** The first time what the machine itself makes for a call that is new to it counts, too; so the second counts. */
    private static void madeBy(String name, Supplier<MeetingServer> scene, Consumer<MeetingServer> call) {
        call.accept(scene.get());
        MeetingServer server = scene.get();
        long before = COUNTER.getCurrentThreadAllocatedBytes();
        call.accept(server);
        MADE.put(name, COUNTER.getCurrentThreadAllocatedBytes() - before);
    }

    private static void zones() {
        madeBy("setOffset", Scenes::clocks, server -> server.setOffset(0, 5));
        madeBy("setSummer", Scenes::clocks, server -> server.setSummer(0, 3, 50));
        madeBy("common", Scenes::clocks, server -> server.common(0, 700));
        madeBy("local", Scenes::clocks, server -> server.local(0, 700));
    }

    /** Eight meetings, two of them with everybody; the first one has a date on each day, and all have accepted it. */
    private static MeetingServer dense() {
        MeetingServer server = Scenes.wide();
        server.time(0, 0, 10, 23);
        server.repeat(0, 1, 127, 10);
        for (int day = 10; day < 59; day++) {
            server.add(0, day);
        }
        server.send(0);
        for (int message = 8; message < 12; message++) {
            server.deliver(message);
            server.answer(server.receiver(message), 0, NONE, MeetingServer.ACCEPTED);
        }
        for (int message = 12; message < 16; message++) {
            server.deliver(message);
        }
        return server;
    }

    /** The same with a proposal of person 1, the message 16, that has come. */
    private static MeetingServer proposed() {
        MeetingServer server = dense();
        server.deliver(server.propose(1, 0, 5, 200));
        return server;
    }

    private static void organiser() {
        madeBy("make", () -> Scenes.several(7), server -> server.make(4, 2, 59, 23, 23));
        madeBy("time", RoomTest::dense, server -> server.time(0, 5, 5, 5));
        madeBy("repeat", RoomTest::dense, server -> server.repeat(0, 2, 63, 10));
        madeBy("drop", RoomTest::dense, server -> server.drop(0, 5));
        madeBy("add", Scenes::wide, server -> server.add(0, 5));
        madeBy("move", RoomTest::dense, server -> server.move(0, 5, 5));
        madeBy("invite", RoomTest::dense, server -> server.invite(0, 1, false));
        madeBy("cancel", RoomTest::dense, server -> server.cancel(0));
        madeBy("send", RoomTest::dense, server -> server.send(0));
        madeBy("take", RoomTest::proposed, server -> server.take(16));
        madeBy("refuse", RoomTest::proposed, server -> server.refuse(16));
    }

    private static void others() {
        madeBy("answer", RoomTest::dense, server -> server.answer(1, 0, 5, MeetingServer.DECLINED));
        madeBy("delegate", RoomTest::dense, server -> server.delegate(1, 0, 3));
        madeBy("propose", RoomTest::dense, server -> server.propose(1, 0, 5, 200));
    }

    private static void messages() {
        Supplier<MeetingServer> full = () -> Scenes.wideWithMessages(150);
        madeBy("deliver", full, server -> server.deliver(149));
        madeBy("messages", full, server -> server.messages());
        madeBy("kindOf", full, server -> server.kindOf(149));
        madeBy("receiver", full, server -> server.receiver(149));
        madeBy("lineLength", full, server -> server.lineLength(149));
        madeBy("lineChar", full, server -> server.lineChar(149, 10));
    }

    private static void questions() {
        madeBy("meetings", RoomTest::dense, server -> server.meetings());
        madeBy("isThere", RoomTest::dense, server -> server.isThere(1, 0));
        madeBy("sequence", RoomTest::dense, server -> server.sequence(1, 0));
        madeBy("dates", RoomTest::dense, server -> server.dates(1, 0));
        madeBy("dateAt", RoomTest::dense, server -> server.dateAt(1, 0, 59));
        madeBy("begin", RoomTest::dense, server -> server.begin(1, 0, 59));
        madeBy("ownAnswer", RoomTest::dense, server -> server.ownAnswer(1, 0, 59));
        madeBy("isAsked", RoomTest::dense, server -> server.isAsked(0, 1));
        madeBy("answerOf", RoomTest::dense, server -> server.answerOf(0, 1, 59));
        madeBy("answerByLog", RoomTest::dense, server -> server.answerByLog(0, 1, 59));
        madeBy("agrees", RoomTest::dense, server -> server.agrees(0));
        madeBy("proposals", RoomTest::proposed, server -> server.proposals(0));
        madeBy("proposalAt", RoomTest::proposed, server -> server.proposalAt(0, 0));
        madeBy("rank", RoomTest::dense, server -> server.rank(1, 700));
        madeBy("firstFree", RoomTest::dense, server -> server.firstFree(31, -48, 48));
        madeBy("firstFreeByHours", RoomTest::dense, server -> server.firstFreeByHours(31, -48, 48));
        madeBy("mark", RoomTest::dense, server -> server.mark(2));
        madeBy("changes", RoomTest::dense, server -> server.changes(2, 0));
        madeBy("changeAt", RoomTest::dense, server -> server.changeAt(2, 0, 7));
    }
}
