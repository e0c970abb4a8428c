import java.util.ArrayList;
import java.util.List;

/** The sentences about exceptions and constants, and the last of the calls that an object promises to answer. */
final class ExceptionSentences {
    private static final String INDEX = Check.INDEX;
    private static final String ARGUMENT = Check.ARGUMENT;
    private static final String STATE = Check.STATE;

    private ExceptionSentences() {
    }

    static void test() {
        Sentences.chapter("What it is");
        Sentences.says("An object is used for at most 512 calls after it has been made; what later calls answer is free.",
                ExceptionSentences::lastPromisedCall);
        exceptions();
        constants();
    }

    /** The 512th call answers, and throws, what the same call answers on the same store after fewer calls. */
    private static void lastPromisedCall() {
        List<Refused.On> calls = new ArrayList<>(callsWithoutSuchOne());
        calls.addAll(callsOutOfRange());
        calls.addAll(callsInWrongState());
        calls.addAll(callsThatAnswer());
        for (Refused.On call : calls) {
            FleetSettings early = Stores.made(Stores.MIDDLE);
            FleetSettings late = Stores.made(Stores.MIDDLE);
            for (int made = Stores.MIDDLE_CALLS; made < 511; made++) {
                late.day();
            }
            Check.due("the last call", Check.answerOf(() -> call.answer(early)), Check.answerOf(() -> call.answer(late)));
        }
    }

    private static List<Refused.On> callsThatAnswer() {
        List<Refused.On> calls = new ArrayList<>(List.of(
                x -> x.setDuty(0, 1), x -> x.leave(1, true), x -> Snapshot.comesBack(x, Stores.LEFT_PERSON),
                x -> x.pass(60), x -> x.day(), x -> x.addGroup(0), x -> x.addMachine(0), x -> x.moveMachine(0, 3)));
        calls.addAll(List.of(x -> x.work(Stores.IDLE_MACHINE, 30), x -> x.setPace(1), x -> x.isBusy(1),
                x -> x.isStopped(0), x -> x.propose(0, 0, 0, 0), x -> x.approve(3, Stores.OPEN_CHANGE)));
        calls.addAll(List.of(x -> Snapshot.withdraws(x, Stores.OPEN_CHANGE), x -> x.exclude(0, 2, false),
                x -> x.changes(), x -> x.state(2), x -> x.rank(2), x -> x.approvals(2), x -> x.told(0, 0)));
        calls.addAll(List.of(x -> x.taken(1, 2, 0), x -> x.runs(1, 0), x -> x.layerOf(1, 0), x -> x.due(1, 0),
                x -> x.dueAnew(1, 0), x -> x.behind(1), x -> x.hidden(1), x -> x.spread(0)));
        return calls;
    }

    private static void exceptions() {
        Sentences.chapter("Exceptions");
        Sentences.says("IndexOutOfBoundsException: there is no such person, group, machine, place, key, layer or change.",
                ExceptionSentences::noSuchOnes);
        Sentences.says("IllegalArgumentException: another argument is out of its range.",
                ExceptionSentences::outOfRange);
        Sentences.says("IllegalStateException: as the method says.", ExceptionSentences::wrongState);
        Sentences.says("If several exceptions apply, the first one of the throws clause is thrown.",
                ExceptionSentences::firstOfThrowsClause);
        Sentences.says("A call that throws changes nothing.", ExceptionSentences::allRefusedInARow);
    }

    private static void noSuchOnes() {
        for (Refused.On call : callsWithoutSuchOne()) {
            Refused.call(Stores.MIDDLE, "no such one", INDEX, call);
        }
    }

    private static List<Refused.On> callsWithoutSuchOne() {
        List<Refused.On> calls = new ArrayList<>(List.of(
                x -> x.leave(8, true), x -> Snapshot.comesBack(x, 8), x -> x.addGroup(4), x -> x.addMachine(4),
                x -> x.moveMachine(4, 0), x -> x.moveMachine(0, 4), x -> x.work(4, 1)));
        calls.addAll(List.of(x -> x.isBusy(4), x -> x.isStopped(4), x -> x.behind(4), x -> x.hidden(4)));
        calls.addAll(List.of(x -> x.propose(8, 0, 0, 0), x -> x.propose(0, 4, 0, 0), x -> x.propose(0, 104, 0, 0),
                x -> x.propose(0, 0, 6, 0), x -> x.approve(8, 0), x -> x.approve(1, 8)));
        calls.addAll(List.of(x -> Snapshot.withdraws(x, 8), x -> x.exclude(6, 0, true), x -> x.exclude(0, 6, true)));
        calls.addAll(List.of(x -> x.state(8), x -> x.rank(8), x -> x.approvals(8), x -> x.spread(8)));
        calls.addAll(List.of(x -> x.told(4, 0), x -> x.told(104, 0), x -> x.told(0, 6), x -> x.taken(4, 0, 0),
                x -> x.taken(0, 4, 0), x -> x.taken(0, 0, 6)));
        calls.addAll(List.of(x -> x.runs(4, 0), x -> x.runs(0, 6), x -> x.layerOf(4, 0), x -> x.layerOf(0, 6)));
        calls.addAll(List.of(x -> x.due(4, 0), x -> x.due(0, 6), x -> x.dueAnew(4, 0), x -> x.dueAnew(0, 6)));
        return calls;
    }

    private static void outOfRange() {
        for (Refused.On call : callsOutOfRange()) {
            Refused.call(Stores.MIDDLE, "out of range", ARGUMENT, call);
        }
    }

    private static List<Refused.On> callsOutOfRange() {
        return List.of(x -> x.setDuty(4, 0), x -> x.setDuty(0, 256), x -> x.pass(0), x -> x.pass(61),
                x -> x.work(0, 31), x -> x.setPace(13), x -> x.propose(0, 0, 0, 102), x -> x.exclude(0, 0, true));
    }

    private static void wrongState() {
        for (Refused.On call : callsInWrongState()) {
            Refused.call(Stores.MIDDLE, "state", STATE, call);
        }
        Refused.call(Stores.FULL, "ten groups", STATE, x -> x.addGroup(0));
        Refused.call(Stores.FULL, "twelve machines", STATE, x -> x.addMachine(0));
        Refused.call(Stores.FULL, "forty changes", STATE, x -> x.propose(0, 0, 0, 0));
    }

    private static List<Refused.On> callsInWrongState() {
        return List.of(x -> x.leave(Stores.LEFT_PERSON, true), x -> Snapshot.comesBack(x, 0),
                x -> Snapshot.comesBack(x, Stores.SUSPECT_PERSON), x -> x.moveMachine(Stores.BUSY_MACHINE, 0),
                x -> x.work(Stores.BUSY_MACHINE, 1), x -> x.work(Stores.STOPPED_MACHINE, 1),
                x -> x.propose(Stores.LEFT_PERSON, 0, 0, 0), x -> x.approve(0, Stores.OPEN_CHANGE),
                x -> x.approve(5, Stores.OPEN_CHANGE), x -> Snapshot.withdraws(x, Stores.HELD_CHANGE));
    }

    private static void firstOfThrowsClause() {
        int left = Stores.LEFT_PERSON;
        Refused.call(Stores.MIDDLE, "work: machine, days", INDEX, x -> x.work(4, 31));
        Refused.call(Stores.MIDDLE, "work: days, busy", ARGUMENT, x -> x.work(Stores.BUSY_MACHINE, 0));
        Refused.call(Stores.MIDDLE, "work: days, stopped", ARGUMENT, x -> x.work(Stores.STOPPED_MACHINE, 31));
        Refused.call(Stores.MIDDLE, "moveMachine: group, busy", INDEX, x -> x.moveMachine(Stores.BUSY_MACHINE, 4));
        Refused.call(Stores.FULL, "addGroup: parent, 10", INDEX, x -> x.addGroup(10));
        Refused.call(Stores.FULL, "addMachine: group, 12", INDEX, x -> x.addMachine(10));
        Refused.call(Stores.MIDDLE, "propose: person, what", INDEX, x -> x.propose(8, 0, 0, 102));
        Refused.call(Stores.MIDDLE, "propose: place, what, left", INDEX, x -> x.propose(left, 4, 0, 102));
        Refused.call(Stores.MIDDLE, "propose: key, what, left", INDEX, x -> x.propose(left, 0, 6, -1));
        Refused.call(Stores.MIDDLE, "propose: what, left", ARGUMENT, x -> x.propose(left, 0, 0, 102));
        Refused.call(Stores.FULL, "propose: person, 40", INDEX, x -> x.propose(-1, 0, 0, 0));
        Refused.call(Stores.FULL, "propose: place, 40", INDEX, x -> x.propose(0, 10, 0, 0));
        Refused.call(Stores.FULL, "propose: key, 40", INDEX, x -> x.propose(0, 0, -1, 0));
        Refused.call(Stores.FULL, "propose: what, 40", ARGUMENT, x -> x.propose(0, 0, 0, -1));
        Refused.call(Stores.MIDDLE, "approve: change, left", INDEX, x -> x.approve(left, 8));
        Refused.call(Stores.MIDDLE, "approve: change, not on duty", INDEX, x -> x.approve(5, 8));
        Refused.call(Stores.MIDDLE, "approve: person, WITHDRAWN", INDEX, x -> x.approve(8, Stores.WITHDRAWN_CHANGE));
        Refused.call(Stores.MIDDLE, "exclude: both keys, the same", INDEX, x -> x.exclude(6, 6, true));
        Refused.call(Stores.MIDDLE, "exclude: both keys, the same", INDEX, x -> x.exclude(-1, -1, false));
    }

    private static void allRefusedInARow() {
        List<Refused.On> calls = new ArrayList<>(callsWithoutSuchOne());
        calls.addAll(callsOutOfRange());
        calls.addAll(callsInWrongState());
        Check.due("calls of all kinds", true, calls.size() > 50);
        List<String> after = Snapshot.of(x -> {
            Stores.MIDDLE.tell(x);
            for (Refused.On call : calls) {
                Check.due("thrown", true, Check.answerOf(() -> call.answer(x)).toString().startsWith("throws."));
            }
        });
        Check.due("nothing is changed", "", Snapshot.difference(Snapshot.of(Stores.MIDDLE), after));
    }

    private static void constants() {
        Sentences.says("The constants: `NONE = -1`: There is none.", () -> {
            Check.due("NONE", -1, FleetSettings.NONE);
            Check.due("no rank", -1, Stores.made(Stores.MIDDLE).rank(Stores.OPEN_CHANGE));
        });
        Sentences.says("`MASK = 100, CLEAR = 101`: What a change tells besides values: that a key has none, whatever "
                + "farther layers tell; that nothing is told here.", () -> {
            Check.due("MASK", 100, FleetSettings.MASK);
            Check.due("CLEAR", 101, FleetSettings.CLEAR);
            FleetSettings x = Stores.withMachines(1);
            Stores.held(x, 0, 0, 99);
            Stores.held(x, 100, 0, 100);
            Check.due("has none", -1, x.due(0, 0));
            Stores.held(x, 100, 0, 101);
            Check.due("nothing is told here", 99, x.due(0, 0));
        });
        Sentences.says("`OPEN = 0, HELD = 1, VOID = 2, WITHDRAWN = 3`: What a change is.", () -> {
            Check.due("OPEN", 0, FleetSettings.OPEN);
            Check.due("HELD", 1, FleetSettings.HELD);
            Check.due("VOID", 2, FleetSettings.VOID);
            Check.due("WITHDRAWN", 3, FleetSettings.WITHDRAWN);
        });
    }
}
