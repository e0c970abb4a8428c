import java.util.ArrayList;
import java.util.List;

/** All that can be asked of a store, and what it answers to calls to come. */
final class Snapshot {
    private static final int PROMISED_CALLS = 512;

    private final Stores.Story story;
    private final List<String> answers = new ArrayList<>();
    private FleetSettings x;
    private int asked;

    private Snapshot(Stores.Story story) {
        this.story = story;
    }

    static List<String> of(Stores.Story story) {
        Snapshot snapshot = new Snapshot(story);
        snapshot.askChanges();
        snapshot.askMachines();
        snapshot.askDue();
        snapshot.askTold();
        snapshot.askTaken();
        snapshot.askSettings();
        snapshot.askCounts();
        snapshot.letDaysPass();
        snapshot.letAllApprove();
        snapshot.letAllLeave();
        return snapshot.answers;
    }

    /** The first place where two lists of answers differ; "" if there is none. */
    static String difference(List<String> before, List<String> after) {
        for (int row = 0; row < Math.min(before.size(), after.size()); row++) {
            if (!before.get(row).equals(after.get(row))) {
                return before.get(row) + " -> " + after.get(row);
            }
        }
        return before.size() == after.size() ? "" : before.size() + " answers -> " + after.size();
    }

    /** A new object for each kind of questions, as an object answers 512 calls only. */
    private void beginAgain() {
        x = Stores.made(story);
        asked = 0;
    }

    private void ask(String what, Check.Call call) {
        asked++;
        if (asked > PROMISED_CALLS - Stores.MOST_CALLS - 1) {
            throw new AssertionError("too many questions to one object: " + what);
        }
        answers.add(what + " " + Check.answerOf(call));
    }

    private void askChanges() {
        beginAgain();
        ask("day", () -> x.day());
        ask("changes", () -> x.changes());
        for (int change = 0; change < 41; change++) {
            int c = change;
            ask("state " + c, () -> x.state(c));
            ask("rank " + c, () -> x.rank(c));
            ask("approvals " + c, () -> x.approvals(c));
            ask("spread " + c, () -> x.spread(c));
        }
    }

    private void askMachines() {
        beginAgain();
        for (int machine = 0; machine < 12; machine++) {
            int m = machine;
            ask("isBusy " + m, () -> x.isBusy(m));
            ask("isStopped " + m, () -> x.isStopped(m));
            ask("behind " + m, () -> x.behind(m));
            ask("hidden " + m, () -> x.hidden(m));
            for (int key = 0; key < 6; key++) {
                int k = key;
                ask("runs " + m + " " + k, () -> x.runs(m, k));
                ask("layerOf " + m + " " + k, () -> x.layerOf(m, k));
            }
        }
    }

    private void askDue() {
        beginAgain();
        for (int cell = 0; cell < 12 * 6; cell++) {
            int machine = cell / 6;
            int key = cell % 6;
            ask("dueAnew " + machine + " " + key, () -> x.dueAnew(machine, key));
            ask("due " + machine + " " + key, () -> x.due(machine, key));
        }
    }

    private void askTold() {
        beginAgain();
        for (int cell = 0; cell < 22 * 6; cell++) {
            int place = cell / 6 < 10 ? cell / 6 : 90 + cell / 6;
            int key = cell % 6;
            ask("told " + place + " " + key, () -> x.told(place, key));
        }
    }

    private void askTaken() {
        for (int machine = 0; machine < 12; machine++) {
            int m = machine;
            if (machine % 4 == 0) {
                beginAgain();
            }
            for (int cell = 0; cell < 11 * 6; cell++) {
                int layer = cell / 6;
                int key = cell % 6;
                ask("taken " + m + " " + layer + " " + key, () -> x.taken(m, layer, key));
            }
        }
    }

    private void askSettings() {
        beginAgain();
        ask("pace", () -> x.setPace(12));
        for (int remainder = 0; remainder < 4; remainder++) {
            int r = remainder;
            ask("duty " + r, () -> x.setDuty(r, 255));
        }
        for (int pair = 0; pair < 6 * 6; pair++) {
            int key = pair / 6;
            int other = pair % 6;
            ask("excluded " + pair, () -> x.exclude(key, other, true));
        }
        for (int person = 0; person < 8; person++) {
            int p = person;
            ask("comeBack " + p, () -> comesBack(x, p));
        }
        for (int change = 0; change < 41; change++) {
            int c = change;
            ask("withdraw " + c, () -> withdraws(x, c));
        }
    }

    private void askCounts() {
        beginAgain();
        for (int machine = 0; machine < 12; machine++) {
            int m = machine;
            ask("home of " + m, () -> x.moveMachine(m, 0));
            ask("work of " + m, () -> x.work(m, 1));
        }
        for (int more = 0; more < 12; more++) {
            ask("addGroup", () -> x.addGroup(0));
            ask("addMachine", () -> x.addMachine(0));
        }
        for (int more = 0; more < 41; more++) {
            ask("propose", () -> x.propose(0, 0, 0, 0));
        }
    }

    private void letDaysPass() {
        beginAgain();
        for (int day = 0; day < 6; day++) {
            ask("pass", () -> x.pass(1));
            for (int machine = 0; machine < 12; machine++) {
                int m = machine;
                ask("later isBusy " + m, () -> x.isBusy(m));
                ask("later isStopped " + m, () -> x.isStopped(m));
                ask("later runs " + m, () -> x.runs(m, 0));
                ask("later behind " + m, () -> x.behind(m));
            }
        }
        ask("pass", () -> x.pass(60));
        ask("day", () -> x.day());
    }

    private void letAllApprove() {
        beginAgain();
        for (int call = 0; call < 8 * 40; call++) {
            int person = call % 8;
            int change = call / 8;
            ask("approve " + person + " " + change, () -> x.approve(person, change));
        }
    }

    private void letAllLeave() {
        beginAgain();
        for (int person = 0; person < 8; person++) {
            int p = person;
            ask("leave " + p, () -> x.leave(p, true));
            for (int change = 0; change < 40; change++) {
                int c = change;
                ask("then state " + c, () -> x.state(c));
            }
        }
    }

    static Object comesBack(FleetSettings x, int person) {
        x.comeBack(person);
        return "comes";
    }

    static Object withdraws(FleetSettings x, int change) {
        x.withdraw(change);
        return "withdraws";
    }
}
