import java.util.ArrayList;
import java.util.Arrays;
import java.util.List;
import java.util.function.Supplier;

/**
 * A method of the face with arguments that it takes: what it takes at the ends of its ranges, what it refuses
 * beside them and in which states, that a refused call changes nothing, and which of two exceptions goes ahead.
 */
final class Refusals {
    interface Body {
        Object call(MeetingServer server, int[] arguments);
    }

    /** A row of the throws clause that applies with some arguments, or on another object; values: argument, value, .. */
    private record Fault(int order, String row, String what, Supplier<MeetingServer> scene, int[] values) {
    }

    private final Edges edges;
    private final int promise;
    private final Supplier<MeetingServer> scene;
    private final Body body;
    private final int[] right;
    private final List<Fault> faults = new ArrayList<>();

    Refusals(Edges edges, int promise, Supplier<MeetingServer> scene, Body body, int... right) {
        this.edges = edges;
        this.promise = promise;
        this.scene = scene;
        this.body = body;
        this.right = right;
    }

    /** Both ends of the range are taken; what lies beside them is refused, as the row of the throws clause says. */
    Refusals range(int argument, String rangeRow, int low, int high, String throwsRow) {
        edges.of(promise, rangeRow);
        taken("the first that is allowed", scene, argument, low);
        taken("the last that is allowed", scene, argument, high);
        return outside(argument, low, high, throwsRow);
    }

    /** The same where the ends are taken in some states only. */
    Refusals outside(int argument, int low, int high, String throwsRow) {
        for (int value : new int[] {low - 1, high + 1, Integer.MIN_VALUE, Integer.MAX_VALUE}) {
            refused(throwsRow, "argument " + argument + " is " + value, argument, value);
        }
        return this;
    }

    /** The arguments are taken on this object; the sentence is the one that was told last. */
    Refusals taken(String what, Supplier<MeetingServer> made, int... values) {
        MeetingServer server = made.get();
        int[] arguments = with(values);
        String thrown = Check.thrownBy(() -> body.call(server, arguments));
        edges.due(what + " " + Arrays.toString(arguments) + " throws", thrown, "nothing");
        return this;
    }

    Refusals refused(String throwsRow, String what, int... values) {
        return refused(throwsRow, what, scene, values);
    }

    Refusals refused(String throwsRow, String what, Supplier<MeetingServer> made, int... values) {
        return refused(orderOf(throwsRow), throwsRow, what, made, values);
    }

    /** A fault that is looked for behind those of all rows. */
    Refusals refusedLast(String throwsRow, String what, int... values) {
        return refused(4, throwsRow, what, scene, values);
    }

    private Refusals refused(int order, String throwsRow, String what, Supplier<MeetingServer> made, int... values) {
        faults.add(new Fault(order, throwsRow, what, made == scene ? null : made, values));
        edges.of(promise, throwsRow);
        edges.refuses(what, thrownBy(throwsRow), made, server -> body.call(server, with(values)));
        return this;
    }

    private int[] with(int... values) {
        int[] arguments = right.clone();
        for (int place = 0; place < values.length; place += 2) {
            arguments[values[place]] = values[place + 1];
        }
        return arguments;
    }

    private static Class<? extends RuntimeException> thrownBy(String row) {
        switch (orderOf(row)) {
            case 1: return IndexOutOfBoundsException.class;
            case 2: return IllegalArgumentException.class;
            default: return IllegalStateException.class;
        }
    }

    private static int orderOf(String row) {
        return List.of("IndexOutOfBoundsException", "IllegalArgumentException", "IllegalStateException")
                .indexOf(row.split("`")[1]) + 1;
    }

    /** Of each two faults of different rows the one of the earlier row decides. */
    void inOrder() {
        edges.of("Exceptions", "The first line of a method's throws clause that applies decides");
        for (Fault first : faults) {
            for (Fault second : faults) {
                if (first.order < second.order) {
                    ahead(first, second);
                }
            }
        }
    }

    private void ahead(Fault first, Fault second) {
        Supplier<MeetingServer> made = second.scene == null ? first.scene == null ? scene : first.scene : second.scene;
        int[] arguments = with(second.values);
        for (int place = 0; place < first.values.length; place += 2) {
            arguments[first.values[place]] = first.values[place + 1];
        }
        MeetingServer server = made.get();
        edges.due("Promise " + promise + ": " + first.what + ", ahead of: " + second.what,
                Check.thrownBy(() -> body.call(server, arguments)), thrownBy(first.row).getSimpleName());
    }
}
