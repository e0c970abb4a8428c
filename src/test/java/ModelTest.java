import java.lang.reflect.InvocationTargetException;
import java.lang.reflect.Method;
import java.util.ArrayList;
import java.util.Arrays;
import java.util.HashMap;
import java.util.List;
import java.util.Map;
import java.util.TreeMap;

/** Makes the same long runs of calls on a FleetSettings and on a Model, and compares each answer. */
public final class ModelTest {
    private static final int RUNS = 150;
    private static final int CALLS = 360;
    private static final Map<String, Method> PROGRAM = methodsOf(FleetSettings.class);
    private static final Map<String, Method> MODEL = methodsOf(Model.class);
    private static final int[] FAR = {Integer.MIN_VALUE, -100, -1, 50, 1000, Integer.MAX_VALUE};

    /** How often which answers came, so that it can be checked that the runs reach what matters. */
    private static final Map<String, Integer> REACHED = new TreeMap<>();

    private final long first;
    private long seed;
    private final FleetSettings program = new FleetSettings();
    private final Model model = new Model();
    private final StringBuilder told = new StringBuilder();
    private int groups = 1;
    private int machines;

    private ModelTest(long first) {
        this.first = first;
        this.seed = first;
    }

    public static void main(String[] args) {
        for (int run = 0; run < RUNS && !Check.isAnyWrong(); run++) {
            new ModelTest(run).run();
        }
        for (String due : List.of("leave 0", "leave 1", "leave 3", "comeBack null", "pass 0", "pass 12", "state 2",
                "state 3", "isStopped true", "isBusy true", "work throws.IllegalStateException", "hidden 1",
                "behind 3", "told 100", "moveMachine throws.IllegalStateException", "withdraw null",
                "propose throws.IllegalStateException", "exclude true", "spread 12", "rank 20", "layerOf 4")) {
            Check.due("the runs reach " + due, true, REACHED.containsKey(due));
        }
        Check.end("ModelTest");
    }

    private static Map<String, Method> methodsOf(Class<?> type) {
        Map<String, Method> methods = new HashMap<>();
        for (Method method : type.getMethods()) {
            methods.put(method.getName(), method);
        }
        return methods;
    }

    private static Object answer(Method method, Object store, Object[] arguments) {
        try {
            return method.invoke(store, arguments);
        } catch (InvocationTargetException e) {
            return "throws." + e.getCause().getClass().getSimpleName();
        } catch (IllegalAccessException e) {
            throw new AssertionError(e);
        }
    }

    private Object call(String name, Object... arguments) {
        Object want = answer(MODEL.get(name), model, arguments);
        Object got = answer(PROGRAM.get(name), program, arguments);
        REACHED.merge(name + " " + want, 1, Integer::sum);
        String text = name + Arrays.toString(arguments);
        if (!String.valueOf(want).equals(String.valueOf(got))) {
            Check.due("run " + first + told + "\n" + text, want, got);
        }
        return want;
    }

    private void change(String name, Object... arguments) {
        Object answer = call(name, arguments);
        told.append('\n').append(name).append(Arrays.toString(arguments)).append(" = ").append(answer);
        Check.due("run " + first + " goes on", false, Check.isAnyWrong());
        if (answer instanceof Integer && name.equals("addGroup")) {
            groups++;
        }
        if (answer instanceof Integer && name.equals("addMachine")) {
            machines++;
        }
    }

    /** The same numbers on each machine and each day. */
    private int below(int bound) {
        seed = seed * 6364136223846793005L + 1442695040888963407L;
        return (int) Long.remainderUnsigned(seed >>> 33, bound);
    }

    /** Mostly one of the first numbers, sometimes the next one, seldom a far one. */
    private int upTo(int bound) {
        int dice = below(60);
        if (dice == 0) {
            return FAR[below(FAR.length)];
        }
        return dice < 3 || bound <= 0 ? Math.max(bound, 0) : below(bound);
    }

    private int place() {
        return below(5) < 3 ? upTo(groups) : 100 + below(Math.max(1, machines));
    }

    private int key() {
        return below(3) == 0 ? upTo(6) : below(2);
    }

    private int what() {
        int dice = below(10);
        return dice < 6 ? below(100) : dice < 8 ? 100 : dice < 9 ? 101 : upTo(102);
    }

    private void run() {
        below(2);
        int shape = below(3);
        for (int machine = 0; machine < 3 + below(10); machine++) {
            int parent = shape == 0 ? groups - 1 : shape == 1 ? below(groups) : 0;
            if (below(2) == 0 || shape == 0) {
                change("addGroup", parent);
            }
            change("addMachine", below(groups));
        }
        for (int made = 0; made < CALLS && !Check.isAnyWrong(); made++) {
            oneCall();
            someQuestions();
            if (made % 9 == 0) {
                allQuestions();
            }
        }
    }

    private void oneCall() {
        int dice = below(100);
        if (dice < 14) {
            change("propose", upTo(8), place(), key(), what());
        } else if (dice < 52) {
            change("approve", upTo(8), recentChange());
        } else if (dice < 68) {
            change("pass", below(8) == 0 ? upTo(61) : 1 + below(3));
        } else if (dice < 70) {
            change("leave", upTo(8), below(3) > 0);
        } else if (dice < 72) {
            change("comeBack", upTo(8));
        } else if (dice < 76) {
            change("moveMachine", upTo(machines), upTo(groups));
        } else if (dice < 82) {
            change("work", upTo(machines), upTo(31));
        } else if (dice < 86) {
            change("setPace", upTo(13));
        } else if (dice < 91) {
            change("exclude", key(), key(), below(3) > 0);
        } else if (dice < 94) {
            change("withdraw", upTo(model.changes()));
        } else if (dice < 97) {
            change("setDuty", upTo(4), below(2) == 0 ? 255 : upTo(256));
        } else if (dice < 98) {
            change("addGroup", upTo(groups));
        } else {
            change("addMachine", upTo(groups));
        }
    }

    private int recentChange() {
        int changes = model.changes();
        return changes == 0 || below(3) == 0 ? upTo(changes) : Math.max(0, changes - 1 - below(4));
    }

    private void someQuestions() {
        call("day");
        call("changes");
        call("told", place(), upTo(6));
        call("taken", upTo(machines), upTo(4), upTo(6));
        for (String name : List.of("runs", "layerOf", "due", "dueAnew")) {
            call(name, upTo(machines), key());
        }
        for (String name : List.of("state", "rank", "approvals", "spread")) {
            call(name, upTo(model.changes()));
        }
        for (String name : List.of("isBusy", "isStopped", "behind", "hidden")) {
            call(name, upTo(machines));
        }
    }

    private void allQuestions() {
        for (int change = 0; change < model.changes(); change++) {
            for (String name : List.of("state", "rank", "approvals", "spread")) {
                call(name, change);
            }
        }
        for (int machine = 0; machine < machines; machine++) {
            for (String name : List.of("isBusy", "isStopped", "behind", "hidden")) {
                call(name, machine);
            }
            for (int key = 0; key < 6; key++) {
                for (String name : List.of("runs", "layerOf", "due", "dueAnew")) {
                    call(name, machine, key);
                }
                for (int layer = 0; layer < 11; layer++) {
                    call("taken", machine, layer, key);
                }
            }
        }
        for (int place : places()) {
            for (int key = 0; key < 6; key++) {
                call("told", place, key);
            }
        }
    }

    private List<Integer> places() {
        List<Integer> places = new ArrayList<>();
        for (int group = 0; group < groups; group++) {
            places.add(group);
        }
        for (int machine = 0; machine < machines; machine++) {
            places.add(100 + machine);
        }
        return places;
    }
}
