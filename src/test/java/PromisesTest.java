import java.util.ArrayList;
import java.util.List;

/** For each promise of the document: ordinary inputs, the edges that it names, and wrong inputs. */
public final class PromisesTest {
    private static final String INDEX = Check.INDEX;
    private static final String ARGUMENT = Check.ARGUMENT;
    private static final String STATE = Check.STATE;
    private static final int NONE = FleetSettings.NONE;
    private static final int MASK = FleetSettings.MASK;
    private static final int CLEAR = FleetSettings.CLEAR;
    private static final int OPEN = FleetSettings.OPEN;
    private static final int HELD = FleetSettings.HELD;
    private static final int VOID = FleetSettings.VOID;
    private static final int WITHDRAWN = FleetSettings.WITHDRAWN;
    private static final int[] OUTSIDE = {Integer.MIN_VALUE, -1, 1000, Integer.MAX_VALUE};

    public static void main(String[] args) {
        newObject();
        setDuty();
        leave();
        leaveAtThirtyDays();
        leaveWithdraws();
        comeBack();
        pass();
        passByPace();
        passGoesBack();
        day();
        addGroup();
        addMachine();
        moveMachine();
        work();
        workEndsByStop();
        setPace();
        isBusy();
        isStopped();
        propose();
        approve();
        approveByDuty();
        withdraw();
        exclude();
        changes();
        state();
        rank();
        approvals();
        told();
        taken();
        runs();
        layerOf();
        due();
        dueAnew();
        behind();
        hidden();
        hiddenHidesOthers();
        spread();
        firstExceptionIsThrown();
        Check.end("PromisesTest");
    }

    // ---- helpers

    /** Checks that the call throws, and that it changes nothing that can be asked. */
    private static void thrown(FleetSettings x, String what, String exception, Check.Call call) {
        String before = all(x);
        Check.due(what, exception, Check.answerOf(call));
        Check.due(what + " changes nothing", before, all(x));
    }

    private static int machinesOf(FleetSettings x) {
        int machines = 0;
        while (machines < 12 && !INDEX.equals(Check.answerOf(machineCall(x, machines)))) {
            machines++;
        }
        return machines;
    }

    private static Check.Call machineCall(FleetSettings x, int machine) {
        return () -> x.isBusy(machine);
    }

    private static String all(FleetSettings x) {
        StringBuilder text = new StringBuilder();
        text.append(x.day()).append(' ').append(x.changes());
        for (int c = 0; c < x.changes(); c++) {
            text.append("\nchange ").append(x.state(c)).append(' ').append(x.rank(c));
            text.append(' ').append(x.approvals(c)).append(' ').append(x.spread(c));
        }
        for (int m = 0; m < machinesOf(x); m++) {
            text.append("\nmachine ").append(x.isBusy(m)).append(' ').append(x.isStopped(m));
            text.append(' ').append(x.behind(m)).append(' ').append(x.hidden(m));
            for (int key = 0; key < 6; key++) {
                text.append(' ').append(x.runs(m, key)).append(' ').append(x.layerOf(m, key));
                text.append(' ').append(x.due(m, key)).append(' ').append(x.dueAnew(m, key));
            }
        }
        return text.toString();
    }

    // ---- promise 1

    private static void newObject() {
        FleetSettings x = new FleetSettings();
        Check.due("day at first", 0, x.day());
        Check.due("changes at first", 0, x.changes());
        Check.due("pace at first", 12, x.setPace(3));
        for (int remainder = 0; remainder < 4; remainder++) {
            Check.due("duty at first", 255, x.setDuty(remainder, 0));
        }
        for (int person = 0; person < 8; person++) {
            int p = person;
            Check.due("in service at first", STATE, Check.answerOf(() -> Snapshot.comesBack(x, p)));
        }
        for (int key = 0; key < 6; key++) {
            Check.due("told at first", NONE, x.told(0, key));
            for (int other = 0; other < 6; other++) {
                int k = key;
                int o = other;
                Object want = k == o ? ARGUMENT : (Object) false;
                Check.due("excluded at first", want, Check.answerOf(() -> x.exclude(k, o, false)));
            }
        }
        thrown(x, "a group 1 at first", INDEX, () -> x.told(1, 0));
        thrown(x, "a machine at first", INDEX, () -> x.isBusy(0));
        thrown(x, "a change at first", INDEX, () -> x.state(0));
        Check.due("the fleet takes machines", 0, x.addMachine(0));
        Check.due("two objects share nothing", 0, new FleetSettings().addMachine(0));
    }

    // ---- promise 2

    private static void setDuty() {
        FleetSettings x = new FleetSettings();
        for (int remainder = 0; remainder < 4; remainder++) {
            Check.due("set before", 255, x.setDuty(remainder, remainder + 10));
        }
        for (int remainder = 0; remainder < 4; remainder++) {
            int r = remainder;
            Check.due("set of the remainder", r + 10, x.setDuty(r, 0));
            Check.due("the empty set", 0, x.setDuty(r, 255));
            thrown(x, "persons -1", ARGUMENT, () -> x.setDuty(r, -1));
            thrown(x, "persons 256", ARGUMENT, () -> x.setDuty(r, 256));
            Check.due("the set stays", 255, x.setDuty(r, 255));
        }
        for (int remainder : new int[] {Integer.MIN_VALUE, -1, 4, Integer.MAX_VALUE}) {
            thrown(x, "remainder " + remainder, ARGUMENT, () -> x.setDuty(remainder, 1));
        }
        thrown(x, "persons at the ends", ARGUMENT, () -> x.setDuty(0, Integer.MIN_VALUE));
        thrown(x, "persons at the ends", ARGUMENT, () -> x.setDuty(0, Integer.MAX_VALUE));
    }

    // ---- promise 3

    private static void leave() {
        FleetSettings x = Stores.withMachines(1);
        int two = Stores.heldBy(x, 0, 1, 2, 0, 0, 5);
        int three = Stores.heldBy(x, 0, 1, 2, 0, 1, 6);
        x.approve(3, three);
        int own = Stores.heldBy(x, 1, 2, 3, 0, 2, 7);
        int open = x.propose(0, 0, 3, 8);
        x.approve(1, open);
        int ownOpen = x.propose(1, 0, 3, 9);
        for (int person : OUTSIDE) {
            thrown(x, "person " + person, INDEX, () -> x.leave(person, true));
        }
        thrown(x, "person 8", INDEX, () -> x.leave(8, false));
        Check.due("two HELD ones are lost", 2, x.leave(1, true));
        Check.due("two approvals less one", VOID, x.state(two));
        Check.due("good approvals", 1, x.approvals(two));
        Check.due("three approvals less one", HELD, x.state(three));
        Check.due("good approvals", 2, x.approvals(three));
        Check.due("the own one", WITHDRAWN, x.state(own));
        Check.due("approvals of the own one stay", 2, x.approvals(own));
        Check.due("the OPEN one stays OPEN", OPEN, x.state(open));
        Check.due("its approval is voided", 0, x.approvals(open));
        Check.due("the own OPEN one", WITHDRAWN, x.state(ownOpen));
        thrown(x, "who left", STATE, () -> x.leave(1, true));
        Check.due("HELD falls to none", 1, x.leave(2, true));
        Check.due("VOID stays", VOID, x.state(two));
        Check.due("no approvals", 0, x.approvals(two));
        Check.due("HELD becomes VOID", VOID, x.state(three));
        Check.due("approvals of a WITHDRAWN one are voided too", 1, x.approvals(own));
        Check.due("a WITHDRAWN one stays so", WITHDRAWN, x.state(own));

        FleetSettings y = Stores.withMachines(1);
        int change = Stores.held(y, 0, 0, 5);
        Check.due("without suspicion", 0, y.leave(1, false));
        Check.due("author without suspicion", 0, y.leave(0, false));
        Check.due("holds", HELD, y.state(change));
        Check.due("both are good", 2, y.approvals(change));
        thrown(y, "who left without suspicion", STATE, () -> y.leave(1, false));
        thrown(y, "who left can not propose", STATE, () -> y.propose(1, 0, 0, 0));
        thrown(y, "who left can not approve", STATE, () -> y.approve(1, change));
    }

    private static void leaveAtThirtyDays() {
        for (int days = 28; days <= 31; days++) {
            FleetSettings x = new FleetSettings();
            int approved = x.propose(0, 0, 0, 5);
            int own = x.propose(1, 0, 1, 6);
            x.approve(1, approved);
            x.approve(2, own);
            x.approve(3, own);
            x.pass(days);
            x.approve(2, approved);
            boolean isOld = days >= 30;
            Check.due("lost after " + days, isOld ? 0 : 2, x.leave(1, true));
            Check.due("state after " + days, isOld ? HELD : VOID, x.state(approved));
            Check.due("approvals after " + days, isOld ? 2 : 1, x.approvals(approved));
            Check.due("own after " + days, isOld ? HELD : WITHDRAWN, x.state(own));
        }
        FleetSettings y = new FleetSettings();
        int old = y.propose(0, 0, 0, 5);
        y.pass(29);
        y.approve(1, old);
        y.approve(2, old);
        y.pass(1);
        Check.due("the day of the change counts for the author", 0, y.leave(0, true));
        Check.due("an old one stays", HELD, y.state(old));
        Check.due("the day of the approval counts for the approver", 1, y.leave(1, true));
        Check.due("it is VOID", VOID, y.state(old));
    }

    private static void leaveWithdraws() {
        leaveWithdrawsLateOnes();
        FleetSettings x = new FleetSettings();
        int change = x.propose(0, 0, 0, 5);
        x.approve(1, change);
        x.approve(2, change);
        x.leave(1, true);
        Check.due("VOID first", VOID, x.state(change));
        Check.due("it was not HELD", 0, x.leave(0, true));
        Check.due("VOID is WITHDRAWN", WITHDRAWN, x.state(change));
        thrown(x, "it is not approved", STATE, () -> x.approve(3, change));
        Check.due("the rank stays", 0, x.rank(change));
    }

    private static void leaveWithdrawsLateOnes() {
        for (int days = 29; days <= 30; days++) {
            FleetSettings x = Stores.withMachines(1);
            x.pass(20);
            int change = Stores.heldBy(x, 3, 1, 2, 0, 0, 5);
            x.pass(days);
            boolean isOld = days == 30;
            Check.due("days since it was proposed", isOld ? 0 : 1, x.leave(3, true));
            Check.due("state", isOld ? HELD : WITHDRAWN, x.state(change));
            dueBoth("due", isOld ? 5 : NONE, x, 0, 0);
        }
    }

    // ---- promise 4

    private static void comeBack() {
        FleetSettings x = new FleetSettings();
        int change = x.propose(0, 0, 0, 5);
        x.approve(3, change);
        x.leave(3, false);
        Check.due("comes back", "comes", Snapshot.comesBack(x, 3));
        Check.due("is in service", 1, x.propose(3, 0, 0, 6));
        Check.due("the approval is still good", STATE, Check.answerOf(() -> x.approve(3, change)));
        Check.due("approvals", 1, x.approvals(change));
        thrown(x, "in service", STATE, () -> Snapshot.comesBack(x, 3));
        thrown(x, "always in service", STATE, () -> Snapshot.comesBack(x, 4));
        x.leave(3, true);
        thrown(x, "left under suspicion", STATE, () -> Snapshot.comesBack(x, 3));
        Stores.passDays(x, 100);
        thrown(x, "left under suspicion long ago", STATE, () -> Snapshot.comesBack(x, 3));
        for (int person : OUTSIDE) {
            thrown(x, "person " + person, INDEX, () -> Snapshot.comesBack(x, person));
        }
        thrown(x, "person 8", INDEX, () -> Snapshot.comesBack(x, 8));
    }

    // ---- promise 5

    private static void pass() {
        FleetSettings x = new FleetSettings();
        x.addGroup(0);
        x.addGroup(1);
        x.addMachine(2);
        for (int days : new int[] {Integer.MIN_VALUE, -1, 0, 61, Integer.MAX_VALUE}) {
            thrown(x, "days " + days, ARGUMENT, () -> x.pass(days));
        }
        int own = Stores.held(x, 100, 0, 1);
        int group = Stores.held(x, 2, 1, 2);
        int fleet = Stores.held(x, 0, 2, 3);
        int clear = Stores.held(x, 1, 3, CLEAR);
        Check.due("the farthest layer first", 1, x.pass(1));
        Check.due("the fleet", fleet, x.taken(0, 3, 2));
        Check.due("not yet", NONE, x.taken(0, 2, 3));
        Check.due("then its child", 1, x.pass(1));
        Check.due("CLEAR is taken too", clear, x.taken(0, 2, 3));
        Check.due("not yet", NONE, x.taken(0, 1, 1));
        Check.due("two more of sixty days", 2, x.pass(60));
        Check.due("its group", group, x.taken(0, 1, 1));
        Check.due("itself", own, x.taken(0, 0, 0));
        Check.due("nothing more", 0, x.pass(60));
        Check.due("all days passed", 122, x.day());
        int both = Stores.held(x, 0, 0, 9);
        Stores.held(x, 0, 1, 9);
        Check.due("all keys of a layer are one step", 1, x.pass(60));
        Check.due("it is taken", both, x.taken(0, 3, 0));
        Check.due("another day", 182, x.day());
    }

    private static void passByPace() {
        FleetSettings x = Stores.withMachines(4);
        x.setPace(2);
        Stores.held(x, 0, 0, 5);
        x.work(0, 2);
        Check.due("two of them on a day", 2, x.pass(1));
        Check.due("busy", NONE, x.runs(0, 0));
        Check.due("rising numbers", 5, x.runs(1, 0));
        Check.due("rising numbers", 5, x.runs(2, 0));
        Check.due("beyond the pace", NONE, x.runs(3, 0));
        Check.due("the others", 2, x.pass(1));
        Check.due("no more busy on the last day", 5, x.runs(0, 0));
        Check.due("those with nothing to take don't count", 5, x.runs(3, 0));
        x.setPace(0);
        Stores.held(x, 0, 0, 6);
        Check.due("the pace 0", 0, x.pass(60));
        Check.due("runs on", 5, x.runs(0, 0));
        x.setPace(3);
        Check.due("after a while", 4, x.pass(2));
        x.work(1, 30);
        Stores.held(x, 0, 0, 7);
        Check.due("three are idle", 3, x.pass(29));
        Check.due("still busy", 6, x.runs(1, 0));
        Check.due("after thirty days", 1, x.pass(1));
        Stores.held(x, 0, 0, 8);
        for (int machine = 0; machine < 4; machine++) {
            x.work(machine, 7 + 3 * machine);
        }
        Check.due("while all are busy", 0, x.pass(5));
        Check.due("when they end their work, with days without a step between", 4, x.pass(60));
    }

    private static void passGoesBack() {
        FleetSettings x = new FleetSettings();
        x.addGroup(0);
        x.addMachine(1);
        x.addMachine(1);
        int old = Stores.heldBy(x, 0, 1, 2, 0, 0, 1);
        int good = Stores.heldBy(x, 0, 1, 2, 1, 1, 2);
        Stores.heldBy(x, 0, 1, 2, 1, 2, 3);
        x.pass(2);
        int bad = Stores.heldBy(x, 0, 1, 7, 0, 0, 4);
        int alone = Stores.heldBy(x, 0, 1, 7, 0, 3, 5);
        int near = Stores.heldBy(x, 0, 1, 7, 1, 1, 6);
        x.pass(2);
        int late = Stores.heldBy(x, 0, 1, 2, 1, 2, 8);
        Check.due("three are lost", 3, x.leave(7, true));
        x.setPace(0);
        Check.due("going back needs no pace", 2, x.pass(1));
        Check.due("the nearest layer first", good, x.taken(0, 1, 1));
        Check.due("other keys of the layer stay", 2, x.taken(0, 1, 2));
        Check.due("the farther layer waits", bad, x.taken(0, 2, 0));
        Check.due("still stopped", true, x.isStopped(1));
        Check.due("the next layer", 2, x.pass(1));
        Check.due("the one before", old, x.taken(0, 2, 0));
        Check.due("none if there is none", NONE, x.taken(0, 2, 3));
        Check.due("not stopped", false, x.isStopped(1));
        Check.due("with the pace 0 nothing", 0, x.pass(1));
        x.setPace(1);
        Check.due("one by one", 2, x.pass(60));
        Check.due("taken at last", late, x.taken(1, 1, 2));
        Check.due("they are VOID", VOID, x.state(alone));
        Check.due("they are VOID", VOID, x.state(near));
        goingBackDoesNotCount();
    }

    private static void goingBackDoesNotCount() {
        FleetSettings x = Stores.withMachines(3);
        int bad = Stores.heldBy(x, 0, 1, 7, 100, 0, 4);
        Stores.heldBy(x, 0, 1, 7, 101, 0, 4);
        x.pass(1);
        Stores.held(x, 0, 1, 2);
        x.setPace(1);
        x.leave(7, true);
        Check.due("two go back and one takes", 3, x.pass(1));
        Check.due("back", NONE, x.taken(0, 0, 0));
        Check.due("not both on one day", NONE, x.runs(0, 1));
        Check.due("takes", 2, x.runs(2, 1));
        Check.due("gone", 0, x.spread(bad));
    }

    // ---- promise 6

    private static void day() {
        FleetSettings x = new FleetSettings();
        x.pass(1);
        Check.due("a day", 1, x.day());
        x.pass(60);
        Check.due("sixty days more", 61, x.day());
        x.addMachine(0);
        Stores.held(x, 0, 0, 1);
        x.pass(13);
        Check.due("days with steps", 74, x.day());
        thrown(x, "no day passes", ARGUMENT, () -> x.pass(61));
    }

    // ---- promise 7

    private static void addGroup() {
        FleetSettings x = new FleetSettings();
        for (int parent : OUTSIDE) {
            thrown(x, "parent " + parent, INDEX, () -> x.addGroup(parent));
        }
        thrown(x, "its own number", INDEX, () -> x.addGroup(1));
        for (int group = 1; group < 10; group++) {
            Check.due("a group", group, x.addGroup(group - 1));
        }
        thrown(x, "ten groups", STATE, () -> x.addGroup(0));
        thrown(x, "ten groups and no parent", INDEX, () -> x.addGroup(10));
        x.addMachine(9);
        Check.due("the farthest of eleven layers", NONE, x.taken(0, 10, 0));
        thrown(x, "no twelfth layer", INDEX, () -> x.taken(0, 11, 0));
        int change = Stores.held(x, 0, 0, 42);
        x.pass(1);
        Check.due("from the fleet", change, x.taken(0, 10, 0));
        Check.due("from the fleet", 10, x.layerOf(0, 0));
    }

    // ---- promise 8

    private static void addMachine() {
        FleetSettings x = new FleetSettings();
        x.addGroup(0);
        for (int group : OUTSIDE) {
            thrown(x, "group " + group, INDEX, () -> x.addMachine(group));
        }
        thrown(x, "no group 2", INDEX, () -> x.addMachine(2));
        for (int machine = 0; machine < 12; machine++) {
            Check.due("a machine", machine, x.addMachine(machine % 2));
        }
        thrown(x, "twelve machines", STATE, () -> x.addMachine(0));
        thrown(x, "twelve machines and no group", INDEX, () -> x.addMachine(2));
        Check.due("in the fleet", NONE, x.taken(10, 1, 0));
        thrown(x, "in the fleet", INDEX, () -> x.taken(10, 2, 0));
        Check.due("in the group", NONE, x.taken(11, 2, 0));
        Check.due("its group", 1, x.moveMachine(11, 0));
        Check.due("the last place", NONE, x.told(111, 0));
        thrown(x, "no more place", INDEX, () -> x.told(112, 0));
    }

    // ---- promise 9

    private static void moveMachine() {
        FleetSettings x = new FleetSettings();
        x.addGroup(0);
        x.addGroup(1);
        x.addGroup(0);
        x.addMachine(2);
        int fleet = Stores.held(x, 0, 0, 1);
        int one = Stores.held(x, 1, 1, 2);
        int two = Stores.held(x, 2, 2, 3);
        int own = Stores.held(x, 100, 3, 4);
        x.pass(4);
        Check.due("its own group", 2, x.moveMachine(0, 2));
        Check.due("all stay", two, x.taken(0, 1, 2));
        Check.due("to its parent", 2, x.moveMachine(0, 1));
        Check.due("has another number", one, x.taken(0, 1, 1));
        Check.due("has another number", fleet, x.taken(0, 2, 0));
        Check.due("itself", own, x.taken(0, 0, 3));
        Check.due("gone", 0, x.spread(two));
        Check.due("not behind", 0, x.behind(0));
        Check.due("back", 1, x.moveMachine(0, 2));
        Check.due("what is gone is gone", NONE, x.taken(0, 1, 2));
        Check.due("behind", 1, x.behind(0));
        Check.due("to another one", 2, x.moveMachine(0, 3));
        Check.due("gone", 0, x.spread(one));
        Check.due("has another number", fleet, x.taken(0, 2, 0));
        Check.due("to the fleet", 3, x.moveMachine(0, 0));
        Check.due("has another number", fleet, x.taken(0, 1, 0));
        for (int wrong : OUTSIDE) {
            thrown(x, "machine " + wrong, INDEX, () -> x.moveMachine(wrong, 0));
            thrown(x, "group " + wrong, INDEX, () -> x.moveMachine(0, wrong));
        }
        thrown(x, "no group 4", INDEX, () -> x.moveMachine(0, 4));
        x.work(0, 1);
        thrown(x, "busy", STATE, () -> x.moveMachine(0, 0));
        thrown(x, "busy and no group", INDEX, () -> x.moveMachine(0, 4));
        x.pass(1);
        Check.due("not busy any more", 0, x.moveMachine(0, 1));
        moveStopped();
    }

    private static void moveStopped() {
        FleetSettings x = new FleetSettings();
        x.addGroup(0);
        x.addMachine(1);
        Stores.heldBy(x, 0, 1, 2, 1, 0, 5);
        x.pass(1);
        x.leave(1, true);
        Check.due("stopped", true, x.isStopped(0));
        Check.due("a stopped one can move", 1, x.moveMachine(0, 0));
        Check.due("what stopped it is gone", false, x.isStopped(0));
    }

    // ---- promise 10

    private static void work() {
        FleetSettings x = Stores.withMachines(2);
        x.pass(3);
        for (int machine : OUTSIDE) {
            thrown(x, "machine " + machine, INDEX, () -> x.work(machine, 1));
        }
        for (int days : new int[] {Integer.MIN_VALUE, -1, 0, 31, Integer.MAX_VALUE}) {
            thrown(x, "days " + days, ARGUMENT, () -> x.work(0, days));
            thrown(x, "no machine, days " + days, INDEX, () -> x.work(2, days));
        }
        Check.due("a day", 4, x.work(0, 1));
        Check.due("thirty days", 33, x.work(1, 30));
        thrown(x, "busy", STATE, () -> x.work(0, 1));
        thrown(x, "busy and days 31", ARGUMENT, () -> x.work(0, 31));
        Stores.held(x, 0, 0, 5);
        Check.due("on the last of these days", 1, x.pass(1));
        Check.due("not busy", false, x.isBusy(0));
        Check.due("it has taken", 5, x.runs(0, 0));
        Check.due("a busy one makes no step", 0, x.pass(28));
        Check.due("still busy", true, x.isBusy(1));
        Check.due("on the last of these days", 1, x.pass(1));
        Check.due("again", 36, x.work(1, 3));
    }

    private static void workEndsByStop() {
        FleetSettings x = Stores.withMachines(2);
        int change = Stores.heldBy(x, 0, 1, 2, 100, 0, 5);
        x.pass(1);
        x.work(0, 20);
        x.work(1, 20);
        x.leave(1, true);
        Check.due("not busy any more", false, x.isBusy(0));
        Check.due("the other one is", true, x.isBusy(1));
        thrown(x, "stopped", STATE, () -> x.work(0, 1));
        thrown(x, "stopped and days 0", ARGUMENT, () -> x.work(0, 0));
        Check.due("held again", HELD, x.approve(3, change));
        Check.due("not stopped", false, x.isStopped(0));
        Check.due("nor busy again", false, x.isBusy(0));
        Check.due("runs", 5, x.runs(0, 0));
        Check.due("can work", 2, x.work(0, 1));
    }

    // ---- promise 11

    private static void setPace() {
        FleetSettings x = Stores.withMachines(12);
        Check.due("before", 12, x.setPace(0));
        Check.due("before", 0, x.setPace(12));
        Check.due("before", 12, x.setPace(5));
        for (int machines : new int[] {Integer.MIN_VALUE, -1, 13, Integer.MAX_VALUE}) {
            thrown(x, "pace " + machines, ARGUMENT, () -> x.setPace(machines));
        }
        Stores.held(x, 0, 0, 1);
        Check.due("five", 5, x.pass(1));
        Check.due("five and two", 7, x.pass(2));
        Check.due("before", 5, x.setPace(12));
        Stores.held(x, 0, 0, 2);
        Check.due("twelve", 12, x.pass(1));
    }

    // ---- promise 12

    private static void isBusy() {
        FleetSettings x = Stores.withMachines(2);
        Check.due("not at first", false, x.isBusy(0));
        x.work(0, 2);
        Check.due("busy", true, x.isBusy(0));
        Check.due("the other one", false, x.isBusy(1));
        x.pass(1);
        Check.due("busy", true, x.isBusy(0));
        x.pass(1);
        Check.due("not any more", false, x.isBusy(0));
        noSuchMachine(x, 2, new MachineCall() {
            public Object answer(int machine) {
                return x.isBusy(machine);
            }
        });
    }

    private interface MachineCall {
        Object answer(int machine);
    }

    private static void noSuchMachine(FleetSettings x, int machines, MachineCall call) {
        List<Integer> wrong = new ArrayList<>(List.of(machines, 12, 100));
        for (int outside : OUTSIDE) {
            wrong.add(outside);
        }
        for (int machine : wrong) {
            thrown(x, "machine " + machine, INDEX, () -> call.answer(machine));
        }
    }

    private interface KeyCall {
        Object answer(int key);
    }

    private static void noSuchKey(FleetSettings x, KeyCall call) {
        for (int key : new int[] {Integer.MIN_VALUE, -1, 6, Integer.MAX_VALUE}) {
            thrown(x, "key " + key, INDEX, () -> call.answer(key));
        }
    }

    private static void noSuchChange(FleetSettings x, KeyCall call) {
        for (int change : new int[] {Integer.MIN_VALUE, -1, x.changes(), 40, Integer.MAX_VALUE}) {
            thrown(x, "change " + change, INDEX, () -> call.answer(change));
        }
    }

    // ---- promise 13

    private static void isStopped() {
        FleetSettings x = Stores.withMachines(2);
        Check.due("not at first", false, x.isStopped(0));
        int change = Stores.heldBy(x, 3, 1, 2, 100, 0, MASK);
        int clear = Stores.heldBy(x, 3, 1, 2, 100, 1, CLEAR);
        x.pass(1);
        Check.due("not with HELD ones", false, x.isStopped(0));
        x.leave(2, true);
        Check.due("by VOID ones", true, x.isStopped(0));
        Check.due("the other one", false, x.isStopped(1));
        x.approve(4, change);
        Check.due("one is left", true, x.isStopped(0));
        x.approve(4, clear);
        Check.due("none is left", false, x.isStopped(0));
        x.leave(3, true);
        Check.due("by WITHDRAWN ones", true, x.isStopped(0));
        x.pass(1);
        Check.due("gone back", false, x.isStopped(0));
        noSuchMachine(x, 2, x::isStopped);
    }

    // ---- promise 14

    private static void propose() {
        FleetSettings x = Stores.withMachines(1);
        x.addGroup(0);
        for (int wrong : OUTSIDE) {
            thrown(x, "person " + wrong, INDEX, () -> x.propose(wrong, 0, 0, 0));
            thrown(x, "place " + wrong, INDEX, () -> x.propose(0, wrong, 0, 0));
        }
        thrown(x, "person 8", INDEX, () -> x.propose(8, 0, 0, 0));
        for (int place : new int[] {2, 10, 99, 101, 112}) {
            thrown(x, "place " + place, INDEX, () -> x.propose(0, place, 0, 0));
        }
        noSuchKey(x, key -> x.propose(0, 0, key, 0));
        for (int what : new int[] {Integer.MIN_VALUE, -1, 102, Integer.MAX_VALUE}) {
            thrown(x, "what " + what, ARGUMENT, () -> x.propose(0, 0, 0, what));
        }
        x.leave(7, false);
        thrown(x, "not in service", STATE, () -> x.propose(7, 0, 0, 0));
        thrown(x, "not in service, no such key", INDEX, () -> x.propose(7, 0, 6, 0));
        thrown(x, "not in service, what 102", ARGUMENT, () -> x.propose(7, 0, 0, 102));
        int[] what = {0, 99, MASK, CLEAR};
        x.setDuty(0, 0);
        for (int change = 0; change < 40; change++) {
            int place = change % 3 == 0 ? 0 : change % 3 == 1 ? 1 : 100;
            Check.due("its number", change, x.propose(change % 7, place, change % 6, what[change % 4]));
            Check.due("OPEN at first", OPEN, x.state(change));
        }
        thrown(x, "forty changes", STATE, () -> x.propose(0, 0, 0, 0));
        thrown(x, "forty changes, no such place", INDEX, () -> x.propose(0, 2, 0, 0));
        thrown(x, "forty changes, what 102", ARGUMENT, () -> x.propose(0, 0, 0, 102));
    }

    // ---- promise 15

    private static void approve() {
        FleetSettings x = new FleetSettings();
        int change = x.propose(0, 0, 0, 5);
        for (int person : OUTSIDE) {
            thrown(x, "person " + person, INDEX, () -> x.approve(person, change));
        }
        thrown(x, "person 8", INDEX, () -> x.approve(8, change));
        noSuchChange(x, wrong -> x.approve(1, wrong));
        thrown(x, "the author", STATE, () -> x.approve(0, change));
        Check.due("one", OPEN, x.approve(1, change));
        thrown(x, "a good approval", STATE, () -> x.approve(1, change));
        Check.due("two", HELD, x.approve(2, change));
        Check.due("three", HELD, x.approve(3, change));
        x.leave(2, true);
        Check.due("two are left", HELD, x.state(change));
        x.leave(3, true);
        Check.due("one is left", VOID, x.state(change));
        thrown(x, "a good approval of a VOID one", STATE, () -> x.approve(1, change));
        Check.due("held again", HELD, x.approve(4, change));
        int other = x.propose(0, 0, 0, 6);
        x.approve(1, other);
        x.approve(4, other);
        x.leave(1, true);
        x.leave(4, true);
        Check.due("VOID with one is VOID", VOID, x.approve(5, other));
        Check.due("VOID with two is HELD", HELD, x.approve(6, other));
        int withdrawn = x.propose(5, 0, 0, 7);
        x.withdraw(withdrawn);
        thrown(x, "WITHDRAWN", STATE, () -> x.approve(6, withdrawn));
        x.leave(7, false);
        int third = x.propose(5, 0, 0, 8);
        thrown(x, "not in service", STATE, () -> x.approve(7, third));
        x.comeBack(7);
        Check.due("in service again", OPEN, x.approve(7, third));
    }

    private static void approveByDuty() {
        FleetSettings x = new FleetSettings();
        for (int remainder = 0; remainder < 4; remainder++) {
            x.setDuty(remainder, 1 << remainder + 1);
        }
        for (int day = 0; day < 64; day++) {
            int onDuty = day / 7 % 4 + 1;
            if (day % 7 == 0 || day % 7 == 6) {
                int change = x.propose(7, 0, 0, 1);
                for (int person = 0; person < 6; person++) {
                    int who = person;
                    Object want = who == onDuty ? OPEN : (Object) STATE;
                    Check.due("day " + day + " person " + who, want, Check.answerOf(() -> x.approve(who, change)));
                }
            }
            x.pass(1);
        }
    }

    // ---- promise 16

    private static void withdraw() {
        FleetSettings x = new FleetSettings();
        int open = x.propose(0, 0, 0, 5);
        x.approve(1, open);
        noSuchChange(x, wrong -> Snapshot.withdraws(x, wrong));
        Check.due("OPEN", "withdraws", Snapshot.withdraws(x, open));
        Check.due("WITHDRAWN", WITHDRAWN, x.state(open));
        Check.due("approvals stay", 1, x.approvals(open));
        thrown(x, "WITHDRAWN", STATE, () -> Snapshot.withdraws(x, open));
        int held = Stores.held(x, 0, 0, 6);
        thrown(x, "HELD", STATE, () -> Snapshot.withdraws(x, held));
        x.leave(1, true);
        Check.due("VOID", VOID, x.state(held));
        thrown(x, "VOID", STATE, () -> Snapshot.withdraws(x, held));
        Check.due("an approval of a WITHDRAWN one is voided", 0, x.approvals(open));
    }

    // ---- promise 17

    private static void exclude() {
        FleetSettings x = Stores.withMachines(1);
        for (int key = 0; key < 6; key++) {
            Stores.held(x, 0, key, key);
        }
        noSuchKey(x, key -> x.exclude(key, 0, true));
        noSuchKey(x, key -> x.exclude(0, key, true));
        noSuchKey(x, key -> x.exclude(key, key, true));
        for (int key = 0; key < 6; key++) {
            int same = key;
            thrown(x, "the same " + key, ARGUMENT, () -> x.exclude(same, same, false));
        }
        for (int key = 0; key < 6; key++) {
            for (int other = 0; other < 6; other++) {
                if (key != other) {
                    excludePair(x, key, other);
                }
            }
        }
    }

    private static void excludePair(FleetSettings x, int key, int other) {
        Check.due("not before", false, x.exclude(key, other, true));
        Check.due("either way", true, x.exclude(other, key, true));
        Check.due("the lower rank is hidden", 1 << Math.min(key, other), x.hidden(0));
        Check.due("before", true, x.exclude(key, other, false));
        Check.due("not any more", false, x.exclude(key, other, false));
        Check.due("either way", false, x.exclude(other, key, false));
        Check.due("nothing is hidden", 0, x.hidden(0));
    }

    // ---- promise 18

    private static void changes() {
        FleetSettings x = new FleetSettings();
        Check.due("none", 0, x.changes());
        int change = x.propose(0, 0, 0, 0);
        Check.due("one", 1, x.changes());
        x.withdraw(change);
        Check.due("a WITHDRAWN one counts", 1, x.changes());
        Stores.held(x, 0, 0, 0);
        Check.due("two", 2, x.changes());
        for (int more = 2; more < 40; more++) {
            x.propose(0, 0, 0, 0);
        }
        Check.due("forty", 40, x.changes());
    }

    // ---- promise 19

    private static void state() {
        FleetSettings x = new FleetSettings();
        int change = x.propose(0, 0, 0, 0);
        noSuchChange(x, x::state);
        Check.due("OPEN", OPEN, x.state(change));
        x.approve(1, change);
        Check.due("OPEN with one", OPEN, x.state(change));
        x.approve(2, change);
        Check.due("HELD with two", HELD, x.state(change));
        x.leave(1, true);
        Check.due("VOID", VOID, x.state(change));
        x.approve(3, change);
        Check.due("HELD again", HELD, x.state(change));
        x.leave(0, true);
        Check.due("WITHDRAWN", WITHDRAWN, x.state(change));
        x.leave(2, true);
        Stores.passDays(x, 60);
        Check.due("WITHDRAWN stays", WITHDRAWN, x.state(change));
    }

    // ---- promise 20

    private static void rank() {
        FleetSettings x = Stores.withMachines(1);
        int first = x.propose(0, 0, 0, 1);
        int second = x.propose(0, 0, 0, 2);
        int third = x.propose(3, 0, 0, 3);
        noSuchChange(x, x::rank);
        Check.due("OPEN has none", NONE, x.rank(first));
        Check.due("the second is HELD first", HELD, heldOf(x, second));
        Check.due("0 first", 0, x.rank(second));
        Check.due("none yet", NONE, x.rank(first));
        heldOf(x, first);
        Check.due("then 1", 1, x.rank(first));
        x.leave(2, true);
        Check.due("a VOID one keeps it", 0, x.rank(second));
        Check.due("both VOID", NONE, x.told(0, 0));
        x.approve(4, third);
        x.approve(5, third);
        Check.due("the next one", 2, x.rank(third));
        x.approve(4, second);
        Check.due("the rank that it had", 0, x.rank(second));
        Check.due("so the third tells", 3, x.told(0, 0));
        x.leave(3, true);
        Check.due("a WITHDRAWN one keeps it", 2, x.rank(third));
        Check.due("the second tells", 2, x.told(0, 0));
        x.approve(4, first);
        Check.due("the first has the greater rank", 1, x.told(0, 0));
        int open = x.propose(0, 0, 0, 4);
        x.withdraw(open);
        Check.due("never HELD", NONE, x.rank(open));
    }

    private static int heldOf(FleetSettings x, int change) {
        x.approve(1, change);
        return x.approve(2, change);
    }

    // ---- promise 21

    private static void approvals() {
        FleetSettings x = new FleetSettings();
        int change = x.propose(0, 0, 0, 0);
        noSuchChange(x, x::approvals);
        for (int person = 1; person < 8; person++) {
            Check.due("good ones", person - 1, x.approvals(change));
            x.approve(person, change);
        }
        Check.due("seven", 7, x.approvals(change));
        x.leave(7, false);
        Check.due("a good one stays", 7, x.approvals(change));
        for (int person = 1; person < 7; person++) {
            x.leave(person, true);
            Check.due("voided ones", 7 - person, x.approvals(change));
        }
    }

    // ---- promise 22

    private static void told() {
        FleetSettings x = Stores.withMachines(1);
        x.addGroup(0);
        for (int place : new int[] {-1, 2, 99, 101, 112, Integer.MIN_VALUE, Integer.MAX_VALUE}) {
            thrown(x, "place " + place, INDEX, () -> x.told(place, 0));
        }
        noSuchKey(x, key -> x.told(0, key));
        x.propose(0, 0, 0, 5);
        Check.due("an OPEN one tells nothing", NONE, x.told(0, 0));
        for (int place : new int[] {0, 1, 100}) {
            Stores.held(x, place, 2, 0);
            Check.due("a value", 0, x.told(place, 2));
            Check.due("another key", NONE, x.told(place, 3));
            Stores.held(x, place, 2, MASK);
            Check.due("MASK", MASK, x.told(place, 2));
            Stores.held(x, place, 2, 99);
            Check.due("a value", 99, x.told(place, 2));
            int last = Stores.heldBy(x, 3, 4, 5, place, 2, CLEAR);
            Check.due("CLEAR", NONE, x.told(place, 2));
            Check.due("its rank is the greatest", true, x.rank(last) == x.changes() - 2);
        }
        Check.due("lost", 3, x.leave(4, true));
        for (int place : new int[] {0, 1, 100}) {
            Check.due("the one before tells again", 99, x.told(place, 2));
        }
    }

    // ---- promise 23

    private static void taken() {
        FleetSettings x = new FleetSettings();
        x.addGroup(0);
        x.addMachine(1);
        int fleet = Stores.held(x, 0, 0, 1);
        int group = Stores.held(x, 1, 5, 2);
        int own = Stores.held(x, 100, 3, 3);
        Check.due("none at first", NONE, x.taken(0, 2, 0));
        x.pass(3);
        Check.due("of the fleet", fleet, x.taken(0, 2, 0));
        Check.due("of the group", group, x.taken(0, 1, 5));
        Check.due("of itself", own, x.taken(0, 0, 3));
        Check.due("none", NONE, x.taken(0, 0, 0));
        for (int layer : OUTSIDE) {
            thrown(x, "layer " + layer, INDEX, () -> x.taken(0, layer, 0));
        }
        thrown(x, "layer 3", INDEX, () -> x.taken(0, 3, 0));
        noSuchKey(x, key -> x.taken(0, 0, key));
        noSuchMachine(x, 1, machine -> x.taken(machine, 0, 0));
        int next = Stores.held(x, 100, 3, 4);
        Check.due("the one before", own, x.taken(0, 0, 3));
        x.pass(1);
        Check.due("the next", next, x.taken(0, 0, 3));
    }

    // ---- promise 24

    private static void runs() {
        FleetSettings x = new FleetSettings();
        x.addGroup(0);
        x.addMachine(1);
        x.addMachine(0);
        Stores.held(x, 0, 0, 0);
        Check.due("not yet taken", NONE, x.runs(0, 0));
        x.pass(1);
        Check.due("of the fleet", 0, x.runs(0, 0));
        Stores.held(x, 1, 0, MASK);
        x.pass(1);
        Check.due("masked", NONE, x.runs(0, 0));
        Check.due("not in the fleet", 0, x.runs(1, 0));
        Stores.held(x, 100, 0, 99);
        x.pass(1);
        Check.due("nearer than the mask", 99, x.runs(0, 0));
        Stores.held(x, 100, 0, CLEAR);
        x.pass(1);
        Check.due("CLEAR tells nothing", NONE, x.runs(0, 0));
        Stores.held(x, 1, 0, CLEAR);
        x.pass(1);
        Check.due("the fleet again", 0, x.runs(0, 0));
        int other = Stores.heldBy(x, 0, 1, 3, 1, 1, 7);
        x.pass(1);
        x.exclude(0, 1, true);
        Check.due("hidden by the nearer one", NONE, x.runs(0, 0));
        Check.due("the nearer one", 7, x.runs(0, 1));
        Check.due("where there is no other", 0, x.runs(1, 0));
        x.leave(3, true);
        Check.due("VOID", VOID, x.state(other));
        Check.due("stopped", NONE, x.runs(0, 1));
        Check.due("stopped in all keys", NONE, x.runs(0, 0));
        x.pass(1);
        Check.due("not hidden any more", 0, x.runs(0, 0));
        noSuchKey(x, key -> x.runs(0, key));
        noSuchMachine(x, 2, machine -> x.runs(machine, 0));
    }

    // ---- promise 25

    private static void layerOf() {
        FleetSettings x = new FleetSettings();
        x.addGroup(0);
        x.addMachine(1);
        Check.due("none", NONE, x.layerOf(0, 0));
        Stores.held(x, 0, 0, 0);
        x.pass(1);
        Check.due("the fleet", 2, x.layerOf(0, 0));
        Stores.held(x, 1, 0, 5);
        Check.due("not yet", 2, x.layerOf(0, 0));
        x.pass(1);
        Check.due("the group", 1, x.layerOf(0, 0));
        Stores.heldBy(x, 0, 1, 3, 100, 0, 0);
        x.pass(1);
        Check.due("itself", 0, x.layerOf(0, 0));
        Stores.held(x, 100, 1, 6);
        x.exclude(0, 1, true);
        x.pass(1);
        Check.due("hidden", NONE, x.layerOf(0, 0));
        Check.due("shown", 0, x.layerOf(0, 1));
        x.leave(3, true);
        Check.due("stopped", NONE, x.layerOf(0, 1));
        x.pass(1);
        Stores.held(x, 100, 0, MASK);
        x.pass(1);
        Check.due("masked", NONE, x.layerOf(0, 0));
        noSuchKey(x, key -> x.layerOf(0, key));
        noSuchMachine(x, 1, machine -> x.layerOf(machine, 0));
    }

    // ---- promise 26 and 27

    private static void dueBoth(String what, int want, FleetSettings x, int machine, int key) {
        // What runs is asked between, so that neither can answer with what the other has found.
        x.runs(machine, key);
        Check.due(what + " anew", want, x.dueAnew(machine, key));
        x.runs(machine, key);
        Check.due(what, want, x.due(machine, key));
    }

    private static void due() {
        FleetSettings x = new FleetSettings();
        x.addGroup(0);
        x.addMachine(1);
        dueBoth("none", NONE, x, 0, 0);
        Stores.heldBy(x, 0, 1, 2, 0, 0, 1);
        dueBoth("the fleet", 1, x, 0, 0);
        Check.due("it does not run", NONE, x.runs(0, 0));
        int mask = Stores.heldBy(x, 0, 1, 7, 1, 0, MASK);
        dueBoth("masked", NONE, x, 0, 0);
        Stores.heldBy(x, 0, 1, 7, 100, 0, 2);
        dueBoth("itself", 2, x, 0, 0);
        Stores.heldBy(x, 0, 1, 6, 100, 0, CLEAR);
        dueBoth("CLEAR", NONE, x, 0, 0);
        x.work(0, 30);
        dueBoth("busy", NONE, x, 0, 0);
        x.leave(6, true);
        dueBoth("itself again", 2, x, 0, 0);
        x.leave(7, true);
        dueBoth("the fleet again", 1, x, 0, 0);
        x.approve(3, mask);
        dueBoth("masked again", NONE, x, 0, 0);
        x.moveMachine(movable(x), 0);
        dueBoth("by its new layers", 1, x, 0, 0);
        Stores.heldBy(x, 2, 3, 4, 0, 3, 8);
        x.exclude(0, 3, true);
        dueBoth("hidden", NONE, x, 0, 0);
        dueBoth("shown", 8, x, 0, 3);
        noSuchKey(x, key -> x.due(0, key));
        noSuchMachine(x, 1, machine -> x.due(machine, 0));
    }

    private static int movable(FleetSettings x) {
        x.pass(30);
        return 0;
    }

    private static void dueAnew() {
        FleetSettings x = Stores.withMachines(1);
        noSuchKey(x, key -> x.dueAnew(0, key));
        noSuchMachine(x, 1, machine -> x.dueAnew(machine, 0));
        int early = x.propose(0, 0, 0, 1);
        int late = x.propose(0, 0, 0, 2);
        x.approve(3, early);
        x.approve(1, late);
        x.approve(2, late);
        x.approve(4, early);
        dueBoth("the rank comes with the second approval", 1, x, 0, 0);
        x.approve(5, late);
        dueBoth("a third one gives no rank", 1, x, 0, 0);
        x.leave(3, true);
        dueBoth("the other one", 2, x, 0, 0);
        x.approve(6, early);
        dueBoth("with the rank that it had", 1, x, 0, 0);
        x.leave(2, true);
        dueBoth("still held by two", 1, x, 0, 0);
        int voidedFirst = x.propose(0, 0, 0, 3);
        x.approve(1, voidedFirst);
        x.leave(1, true);
        dueBoth("the voided one", 1, x, 0, 0);
        x.approve(4, voidedFirst);
        dueBoth("not yet two", 1, x, 0, 0);
        int between = x.propose(4, 0, 0, 4);
        x.approve(5, between);
        x.approve(6, between);
        dueBoth("between", 4, x, 0, 0);
        x.approve(5, voidedFirst);
        dueBoth("two good ones at last", 3, x, 0, 0);
        x.pass(30);
        x.leave(4, true);
        dueBoth("old approvals stay", 3, x, 0, 0);
        x.leave(0, true);
        dueBoth("old changes stay", 3, x, 0, 0);
        int withdrawn = x.propose(6, 0, 0, 5);
        x.approve(5, withdrawn);
        x.withdraw(withdrawn);
        dueBoth("WITHDRAWN", 3, x, 0, 0);
        rankOutlivesItsApprovals();
    }

    private static void rankOutlivesItsApprovals() {
        FleetSettings x = Stores.withMachines(1);
        int low = Stores.heldBy(x, 0, 1, 2, 0, 0, 1);
        Stores.heldBy(x, 0, 3, 4, 0, 0, 2);
        x.leave(1, true);
        x.leave(2, true);
        x.approve(5, low);
        dueBoth("one is VOID", 2, x, 0, 0);
        Check.due("held again", HELD, x.approve(6, low));
        dueBoth("with its low rank", 2, x, 0, 0);
        x.leave(3, true);
        dueBoth("now it has the greatest one", 1, x, 0, 0);
        x.leave(0, true);
        dueBoth("WITHDRAWN with two good ones", NONE, x, 0, 0);
    }

    // ---- promise 28

    private static void behind() {
        FleetSettings x = new FleetSettings();
        x.addGroup(0);
        x.addMachine(1);
        Check.due("none", 0, x.behind(0));
        Stores.held(x, 0, 0, 1);
        Stores.held(x, 0, 1, 2);
        Check.due("a layer counts once", 1, x.behind(0));
        Stores.held(x, 1, 0, CLEAR);
        Stores.held(x, 100, 0, MASK);
        Check.due("all three", 3, x.behind(0));
        x.pass(1);
        Check.due("two", 2, x.behind(0));
        x.pass(2);
        Check.due("none", 0, x.behind(0));
        Stores.held(x, 0, 0, 1);
        Check.due("the same value from another change", 1, x.behind(0));
        x.pass(1);
        int alone = Stores.heldBy(x, 0, 1, 3, 100, 4, 9);
        x.pass(1);
        x.leave(3, true);
        Check.due("VOID", VOID, x.state(alone));
        Check.due("one is taken though there is none", 1, x.behind(0));
        x.pass(1);
        Check.due("gone back", 0, x.behind(0));
        noSuchMachine(x, 1, x::behind);
    }

    // ---- promise 29

    private static void hidden() {
        FleetSettings x = new FleetSettings();
        x.addGroup(0);
        x.addMachine(1);
        Check.due("none", 0, x.hidden(0));
        x.exclude(0, 1, true);
        Stores.held(x, 1, 0, 1);
        Check.due("the other has no value", 0, x.hidden(0));
        Stores.held(x, 0, 1, 2);
        Check.due("the farther layer, though its rank is greater", 2, x.hidden(0));
        int same = Stores.held(x, 1, 1, 3);
        Check.due("the lower rank of one layer", 1, x.hidden(0));
        Check.due("its rank", 2, x.rank(same));
        Stores.held(x, 1, 0, 4);
        Check.due("the other way", 2, x.hidden(0));
        Stores.held(x, 1, 0, MASK);
        Check.due("a mask is no value", 0, x.hidden(0));
        Stores.held(x, 1, 0, CLEAR);
        Check.due("CLEAR is no value", 0, x.hidden(0));
        Stores.held(x, 0, 0, 5);
        Check.due("the fleet is farther", 1, x.hidden(0));
        x.exclude(1, 0, false);
        Check.due("not any more", 0, x.hidden(0));
        noSuchMachine(x, 1, x::hidden);
    }

    private static void hiddenHidesOthers() {
        FleetSettings x = new FleetSettings();
        x.addGroup(0);
        x.addMachine(1);
        x.exclude(3, 4, true);
        x.exclude(4, 5, true);
        Stores.held(x, 0, 3, 1);
        Stores.held(x, 1, 4, 2);
        Stores.held(x, 100, 5, 3);
        Check.due("a hidden one hides", 1 << 3 | 1 << 4, x.hidden(0));
        Check.due("the nearest one", 3, x.due(0, 5));
        Check.due("the middle one", NONE, x.due(0, 4));
        Check.due("the farthest one", NONE, x.due(0, 3));
        x.pass(3);
        Check.due("runs", 3, x.runs(0, 5));
        Check.due("runs not", NONE, x.runs(0, 4));
        Check.due("runs not", NONE, x.runs(0, 3));
    }

    // ---- promise 30

    private static void spread() {
        FleetSettings x = Stores.withMachines(3);
        int fleet = Stores.held(x, 0, 0, 1);
        int own = Stores.held(x, 101, 0, 2);
        noSuchChange(x, x::spread);
        Check.due("none", 0, x.spread(fleet));
        x.setPace(2);
        x.pass(1);
        Check.due("two", 2, x.spread(fleet));
        x.pass(1);
        Check.due("all", 3, x.spread(fleet));
        x.pass(1);
        Check.due("one", 1, x.spread(own));
        int clear = Stores.held(x, 0, 0, CLEAR);
        Check.due("OPEN ones", 0, x.spread(x.propose(0, 0, 0, 4)));
        x.setPace(1);
        x.pass(1);
        Check.due("less", 2, x.spread(fleet));
        Check.due("more", 1, x.spread(clear));
    }

    // ---- exceptions

    private static void firstExceptionIsThrown() {
        FleetSettings x = Stores.withMachines(1);
        x.work(0, 5);
        thrown(x, "all wrong", INDEX, () -> x.work(9, 99));
        thrown(x, "all wrong", INDEX, () -> x.propose(9, 99, 9, 999));
        thrown(x, "what and key", INDEX, () -> x.propose(0, 0, 6, 102));
        thrown(x, "keys", INDEX, () -> x.exclude(7, 7, true));
        thrown(x, "person and change", INDEX, () -> x.approve(0, 0));
        thrown(x, "machine and key", INDEX, () -> x.taken(0, 5, 9));
    }
}
