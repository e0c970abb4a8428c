import java.util.IdentityHashMap;
import java.util.List;
import java.util.Map;

/** Checks of calls that the document refuses: the exception, and that the state is the same as before. */
final class Refused {
    interface On {
        Object answer(FleetSettings x);
    }

    interface With {
        Object answer(FleetSettings x, int argument);
    }

    private static final Map<Stores.Story, List<String>> BEFORE = new IdentityHashMap<>();

    private Refused() {
    }

    static void call(Stores.Story story, String what, String exception, On call) {
        FleetSettings x = Stores.made(story);
        Check.due(what, exception, Check.answerOf(() -> call.answer(x)));
        List<String> before = BEFORE.computeIfAbsent(story, Snapshot::of);
        List<String> after = Snapshot.of(y -> {
            story.tell(y);
            Check.answerOf(() -> call.answer(y));
        });
        Check.due(what + " changes nothing", "", Snapshot.difference(before, after));
    }

    /** The call with each of the wrong arguments. */
    static void each(Stores.Story story, String what, String exception, int[] wrong, With call) {
        for (int argument : wrong) {
            call(story, what + " " + argument, exception, x -> call.answer(x, argument));
        }
    }

    /** From first to last the call is not refused for this argument, next to these on both sides it is. */
    static void outside(Stores.Story story, String what, String exception, int first, int last, With call) {
        for (int argument = first; argument <= last; argument++) {
            FleetSettings x = Stores.made(story);
            int allowed = argument;
            Object answer = Check.answerOf(() -> call.answer(x, allowed));
            Check.due(what + " " + argument + " is allowed", false, exception.equals(answer));
        }
        each(story, what, exception, new int[] {first - 1, last + 1}, call);
    }

    static void persons(String what, With call) {
        for (Stores.Story story : List.of(Stores.EMPTY, Stores.MIDDLE, Stores.FULL)) {
            each(story, what + " person", Check.INDEX, far(8, 100), call);
        }
    }

    static void groups(String what, With call) {
        each(Stores.EMPTY, what + " group", Check.INDEX, far(1, 9), call);
        each(Stores.MIDDLE, what + " group", Check.INDEX, far(4, 100), call);
        each(Stores.FULL, what + " group", Check.INDEX, far(10, 100), call);
    }

    static void machines(String what, With call) {
        each(Stores.EMPTY, what + " machine", Check.INDEX, far(0, 100), call);
        each(Stores.MIDDLE, what + " machine", Check.INDEX, far(4, 11), call);
        each(Stores.FULL, what + " machine", Check.INDEX, far(12, 111), call);
    }

    static void changes(String what, With call) {
        each(Stores.EMPTY, what + " change", Check.INDEX, far(0, 39), call);
        each(Stores.MIDDLE, what + " change", Check.INDEX, far(8, 39), call);
        each(Stores.FULL, what + " change", Check.INDEX, far(40, 41), call);
    }

    static void keys(String what, With call) {
        each(Stores.MIDDLE, what + " key", Check.INDEX, far(6, 100), call);
        each(Stores.FULL, what + " key", Check.INDEX, far(6, 132), call);
    }

    static void places(String what, With call) {
        each(Stores.EMPTY, what + " place", Check.INDEX, new int[] {1, 10, 100, 111}, call);
        each(Stores.MIDDLE, what + " place", Check.INDEX, new int[] {4, 9, 10, 99, 104, 111}, call);
        each(Stores.FULL, what + " place", Check.INDEX, new int[] {10, 21, 22, 99, 112, 200}, call);
        each(Stores.FULL, what + " place", Check.INDEX, far(1000, -100), call);
    }

    private static int[] far(int first, int other) {
        return new int[] {Integer.MIN_VALUE, -1, first, other, Integer.MAX_VALUE};
    }
}
