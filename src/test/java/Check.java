import java.util.Objects;
import java.util.function.Consumer;
import java.util.function.Supplier;

/** Counts what was as it is due, and prints what was not. */
final class Check {
    private final String suite;
    private int passed;
    private int failed;

    Check(String suite) {
        this.suite = suite;
    }

    void due(String what, Object got, Object want) {
        if (Objects.equals(got, want)) {
            passed++;
        } else {
            failed++;
            System.out.println(suite + ": " + what + " answered " + got + ", due is " + want);
        }
    }

    /** A call on an object made anew must throw IndexOutOfBoundsException, and change nothing. */
    void noPlace(String what, Supplier<MeetingServer> made, Consumer<MeetingServer> call) {
        refuses(what, IndexOutOfBoundsException.class, made, call);
    }

    /** The same with IllegalArgumentException. */
    void badArgument(String what, Supplier<MeetingServer> made, Consumer<MeetingServer> call) {
        refuses(what, IllegalArgumentException.class, made, call);
    }

    /** The same with IllegalStateException. */
    void badState(String what, Supplier<MeetingServer> made, Consumer<MeetingServer> call) {
        refuses(what, IllegalStateException.class, made, call);
    }

    /** Each thing that can be seen is looked at on objects of its own: a look makes calls, too. */
    void refuses(String what, Class<? extends RuntimeException> want, Supplier<MeetingServer> made,
            Consumer<MeetingServer> call) {
        for (Look look : Look.values()) {
            MeetingServer called = made.get();
            String thrown = thrownBy(() -> call.accept(called));
            due(what + " throws", thrown, want.getSimpleName());
            due(what + " changes nothing: " + look, look.at(called), look.at(made.get()));
        }
    }

    static String thrownBy(Runnable call) {
        try {
            call.run();
            return "nothing";
        } catch (RuntimeException thrown) {
            return thrown.getClass().getSimpleName();
        }
    }

    void end() {
        System.out.println(suite + ": " + passed + " as due, " + failed + " not");
        if (failed > 0) {
            System.exit(1);
        }
        if (passed == 0) {
            System.out.println(suite + ": nothing was checked");
            System.exit(1);
        }
    }
}
