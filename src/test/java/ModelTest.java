import java.lang.reflect.InvocationTargetException;
import java.lang.reflect.Method;
import java.util.ArrayList;
import java.util.HashMap;
import java.util.List;
import java.util.Map;
import java.util.Random;

/** Runs of calls drawn by fixed seeds, each call made on the program and on the model: both must answer alike. */
public final class ModelTest {
    private static final int CALLS = 512;

    /** What is drawn how often; each row is a kind of run. */
    private static final String[] RUNS = {
        "setOffset 1 setSummer 1 make 1 time 1 repeat 2 drop 2 add 2 move 2 invite 3 send 4 take 3 refuse 2"
                + " answer 12 delegate 4 propose 8 deliver 30 cancel 1",
        "make 2 time 1 invite 10 cancel 3 send 8 answer 4 deliver 24 repeat 1 delegate 2",
        "setOffset 3 setSummer 3 make 1 time 2 repeat 4 drop 2 add 3 move 4 invite 2 send 3 answer 8 deliver 16",
        "invite 3 send 3 answer 12 delegate 10 deliver 40 move 1 add 1 drop 1",
        "invite 1 send 2 answer 4 propose 20 deliver 30 take 4 refuse 4 move 1 drop 1 add 1",
    };


    private static final String[] QUESTIONS = {
        "common", "local", "messages", "kindOf", "receiver", "lineLength", "lineChar", "meetings", "isThere",
        "sequence", "dates", "dateAt", "begin", "ownAnswer", "isAsked", "answerOf", "answerByLog", "agrees",
        "proposals", "proposalAt", "rank", "firstFree", "firstFreeByHours", "mark", "changes", "changeAt"};

    private static final Map<String, Method> OF_PROGRAM = new HashMap<>();
    private static final Map<String, Method> OF_MODEL = new HashMap<>();

    private final Random random;
    private final MeetingServer server = new MeetingServer();
    private final Model model = new Model();
    private final List<String> weighted = new ArrayList<>();
    private final List<String> run = new ArrayList<>();
    /** How many days the run uses: few of them meet more often. */
    private final int days;
    private final double wrong;

    private ModelTest(long seed) {
        random = new Random(seed);
        String[] words = RUNS[(int) (seed % RUNS.length)].split(" ");
        for (int word = 0; word < words.length; word += 2) {
            for (int time = 0; time < Integer.parseInt(words[word + 1]); time++) {
                weighted.add(words[word]);
            }
        }
        days = random.nextBoolean() ? 8 : 60;
        wrong = random.nextBoolean() ? 0.005 : 0.03;
    }

    public static void main(String[] args) {
        int runs = args.length > 0 ? Integer.parseInt(args[0]) : 600;
        for (Method method : MeetingServer.class.getDeclaredMethods()) {
            if (java.lang.reflect.Modifier.isPublic(method.getModifiers())) {
                OF_PROGRAM.put(method.getName(), method);
            }
        }
        for (String name : OF_PROGRAM.keySet()) {
            OF_MODEL.put(name, methodOf(name));
        }
        Check check = new Check("ModelTest");
        Map<String, Integer> answers = new HashMap<>();
        int wrongRuns = 0;
        for (long seed = 1; seed <= runs && wrongRuns < 3; seed++) {
            String fault = new ModelTest(seed).fault(answers);
            check.due("run " + seed, fault, "");
            wrongRuns += fault.isEmpty() ? 0 : 1;
        }
        if (args.length > 1) {
            answers.entrySet().stream().sorted(Map.Entry.comparingByKey()).forEach(System.out::println);
        }
        check.end();
    }

    private static Method methodOf(String name) {
        Method face = OF_PROGRAM.get(name);
        try {
            return Model.class.getDeclaredMethod(name, face.getParameterTypes());
        } catch (NoSuchMethodException missing) {
            throw new AssertionError(missing);
        }
    }

    /** Empty, or the last calls up to the one that the two answer in different ways. */
    private String fault(Map<String, Integer> answers) {
        double asking = random.nextInt(3) == 0 ? 0.3 : 0.6;
        List<String> begun = beginning();
        for (int call = 0; call < CALLS; call++) {
            boolean isQuestion = random.nextDouble() < asking;
            String name = call < begun.size() ? begun.get(call)
                    : isQuestion ? QUESTIONS[random.nextInt(QUESTIONS.length)]
                    : weighted.get(random.nextInt(weighted.size()));
            Object[] arguments = draw(name);
            String got = answer(OF_PROGRAM.get(name), server, arguments);
            String want = answer(OF_MODEL.get(name), model, arguments);
            answers.merge(name + " " + (want.startsWith("throws") ? want : "answers"), 1, Integer::sum);
            run.add(name + java.util.Arrays.toString(arguments) + " " + got);
            if (!got.equals(want)) {
                int from = Math.max(0, run.size() - 60);
                return "call " + call + ", due " + want + ":\n  " + String.join("\n  ", run.subList(from, run.size()));
            }
        }
        return "";
    }

    /** Some meetings that people have, so that what follows meets something. */
    private List<String> beginning() {
        List<String> begun = new ArrayList<>();
        int meetings = 1 + random.nextInt(random.nextBoolean() ? 2 : 8);
        for (int meeting = 0; meeting < meetings; meeting++) {
            begun.add("make");
        }
        for (String name : new String[] {"repeat", "invite", "invite", "invite", "send"}) {
            for (int time = 0; time < meetings; time++) {
                begun.add(name);
            }
        }
        for (int time = 0; time < 2 * meetings; time++) {
            begun.add("deliver");
        }
        return begun;
    }

    private static String answer(Method method, Object target, Object[] arguments) {
        try {
            return String.valueOf(method.invoke(target, arguments));
        } catch (InvocationTargetException thrown) {
            return "throws." + thrown.getCause().getClass().getSimpleName();
        } catch (IllegalAccessException closed) {
            throw new AssertionError(closed);
        }
    }

    // ---- arguments

    private Object[] draw(String name) {
        int meeting = meeting();
        int person = person();
        switch (name) {
            case "setOffset": return with(zone(), number(-12, 12));
            case "setSummer": return summer();
            case "common": case "local": return with(zone(), random.nextBoolean() ? clockHour() : number(-100, 2000));
            case "make": return with(person, zone(), day(), number(0, 23), number(1, 23));
            case "time": return with(meeting, day(), number(0, 23), number(1, 23));
            case "repeat": return with(meeting, random.nextInt(3) > 0 ? number(1, 3) : number(1, 28),
                    random.nextBoolean() ? 127 : number(1, 127), number(1, 10));
            case "drop": return with(meeting, dateOf(meeting, NOW));
            case "add": return with(meeting, day());
            case "move": return with(meeting, dateOf(meeting, NOW), hour());
            case "invite": return new Object[] {meeting, person, random.nextInt(3) > 0};
            case "cancel": case "send": case "agrees": case "proposals": return with(meeting);
            case "take": case "refuse": return with(openMessage(meeting));
            case "deliver": return with(waiting());
            case "kindOf": case "receiver": case "lineLength": return with(message());
            case "lineChar": return with(message(), number(0, 25));
            case "answer": person = holder(meeting, person);
                return with(person, meeting, random.nextBoolean() ? -1 : dateOf(meeting, person), number(1, 3));
            case "delegate": return with(holder(meeting, person), meeting, person());
            case "propose": person = holder(meeting, person);
                return with(person, meeting, dateOf(meeting, person), hour());
            case "isThere": case "sequence": case "dates": return with(person, meeting);
            case "dateAt": return with(person, meeting, number(0, 5));
            case "begin": case "ownAnswer": person = holder(meeting, person);
                return with(person, meeting, dateOf(meeting, person));
            case "isAsked": return with(meeting, person);
            case "answerOf": case "answerByLog": return with(meeting, person, dateOf(meeting, NOW));
            case "proposalAt": return with(meeting, number(0, 3));
            case "rank": return with(person, busyHour(meeting, person));
            case "firstFree": case "firstFreeByHours": return with(number(1, 31),
                    random.nextBoolean() ? number(-48, 1500) : number(-48, days * 24), number(1, 48));
            case "mark": return with(person);
            case "changes": return with(person, markOf(person));
            case "changeAt": return with(person, markOf(person), number(0, 4));
            default: return with();
        }
    }

    private static final int NOW = -7;

    private static Object[] with(Object... arguments) {
        return arguments;
    }

    /** A number of the range; once in a while one beside it. */
    private int number(int low, int high) {
        if (random.nextDouble() < wrong) {
            int[] beside = {low - 1, high + 1, Integer.MIN_VALUE, Integer.MAX_VALUE, -1, low - 2};
            return beside[random.nextInt(beside.length)];
        }
        return low + random.nextInt(high - low + 1);
    }

    private int zone() {
        return number(0, 2);
    }

    private int person() {
        return number(0, 4);
    }

    private int meeting() {
        return number(0, Math.max(0, model.meetings() - 1));
    }

    private int message() {
        return number(0, Math.max(0, model.messages() - 1));
    }

    /** A message that did not come yet, most times. */
    private int waiting() {
        int drawn = message();
        for (int message = model.messages() - 1; message >= 0 && random.nextInt(5) > 0; message--) {
            if (!model.isDelivered(message) && random.nextInt(3) > 0) {
                return message;
            }
        }
        return drawn;
    }

    private int day() {
        return random.nextInt(20) == 0 ? number(0, 59) : number(0, days - 1);
    }

    private int hour() {
        return random.nextInt(20) == 0 ? number(0, 1439) : number(0, 24 * days - 1);
    }

    private Object[] summer() {
        int first = random.nextInt(4) == 0 ? -1 : random.nextBoolean() ? number(0, 59) : number(0, days / 2);
        int last = first >= 0 && first < 60 ? number(first + 1, random.nextBoolean() ? 60 : first + 3) : number(0, 60);
        return with(zone(), first, last);
    }

    /** An hour at which some clock may change. */
    private int clockHour() {
        return number(0, days) * 24 + 2 + number(-13, 13);
    }

    private boolean isWhole(int meeting) {
        return meeting >= 0 && meeting < model.meetings();
    }

    /** A person who has the meeting, most times. */
    private int holder(int meeting, int person) {
        int found = person;
        for (int tries = 0; tries < 5 && isWhole(meeting) && random.nextInt(20) > 0; tries++) {
            int next = random.nextInt(5);
            boolean isOther = !answer(OF_MODEL.get("isThere"), model, with(next, meeting)).equals("false");
            if (isOther) {
                found = next;
                if (model.dates(next, meeting) > 0) {
                    return next;
                }
            }
        }
        return found;
    }

    /** A date as a person has it, or as it is now, most times. */
    private int dateOf(int meeting, int person) {
        if (isWhole(meeting) && random.nextInt(12) > 0) {
            for (int who = 0; who < 5; who++) {
                boolean isRight = person == NOW ? model.sequence(who, meeting) == newest(meeting) : who == person;
                int count = isRight ? model.dates(who, meeting) : 0;
                if (count > 0) {
                    return model.dateAt(who, meeting, random.nextInt(count));
                }
            }
        }
        return day();
    }

    private int newest(int meeting) {
        int newest = -1;
        for (int who = 0; who < 5; who++) {
            newest = Math.max(newest, model.sequence(who, meeting));
        }
        return newest;
    }

    private int openMessage(int meeting) {
        if (isWhole(meeting) && model.proposals(meeting) > 0 && random.nextInt(8) > 0) {
            return model.proposalAt(meeting, random.nextInt(model.proposals(meeting)));
        }
        return message();
    }

    private int busyHour(int meeting, int person) {
        if (isWhole(meeting) && person >= 0 && person < 5 && model.dates(person, meeting) > 0) {
            int date = model.dateAt(person, meeting, random.nextInt(model.dates(person, meeting)));
            return number(-1, 24) + model.begin(person, meeting, date);
        }
        return number(-48, 1600);
    }

    private int markOf(int person) {
        int mark = person >= 0 && person < 5 ? model.mark(person) : 3;
        return number(random.nextBoolean() ? 0 : Math.max(0, mark - 8), mark);
    }
}
