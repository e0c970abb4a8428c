import java.util.List;

/** The sentences about machines and their settings, each with a test of its own. */
final class SettingSentences {
    private static final String INDEX = Check.INDEX;
    private static final int NONE = FleetSettings.NONE;
    private static final int MASK = FleetSettings.MASK;
    private static final int CLEAR = FleetSettings.CLEAR;
    private static final int HELD = FleetSettings.HELD;

    /** A machine 0 with the layers itself, the group 1 and the fleet, and a machine 1 of the fleet. */
    private static final Stores.Story THREE_LAYERS = x -> {
        Stores.addGroups(x, 0);
        Stores.addMachines(x, 1, 0);
    };

    private SettingSentences() {
    }

    static void test() {
        terms();
        taken();
        values("Promise 24: runs", "Returns the value of a key that runs on a machine.",
                "Returns 0 to 99; NONE if it has none, is hidden, or the machine is stopped.",
                SettingSentences::runsWhatIsTaken, SettingSentences::rangeOfRuns, FleetSettings::runs);
        values("Promise 25: layerOf", "Returns the layer from which the value of a key that runs on a machine comes.",
                "Returns the layer; NONE if runs() is NONE.",
                SettingSentences::layerOfWhatRuns, SettingSentences::noneIfRunsIsNone, FleetSettings::layerOf);
        values("Promise 26: due", "Returns the value of a key that is due for a machine.",
                "Returns 0 to 99; NONE if it has none, or is hidden.",
                () -> dueIs(FleetSettings::due), () -> rangeOfDue(FleetSettings::due), FleetSettings::due);
        values("Promise 27: dueAnew", "Returns the same, found anew from all changes, approvals and leavings.",
                "Returns 0 to 99; NONE if it has none, or is hidden.",
                SettingSentences::anewIsTheSame, () -> rangeOfDue(FleetSettings::dueAnew), FleetSettings::dueAnew);
        behind();
        hidden();
        spread();
    }

    private interface Question {
        int ask(FleetSettings x, int machine, int key);
    }

    /** What the promises of a value for a machine and a key have in common. */
    private static void values(String chapter, String first, String range, Runnable ordinary, Runnable edges,
            Question question) {
        Sentences.chapter(chapter);
        Sentences.says(first, ordinary);
        Sentences.says("`machine`: a machine", () -> {
            Refused.outside(Stores.MIDDLE, "machine", INDEX, 0, 3, (x, machine) -> question.ask(x, machine, 0));
            Refused.outside(Stores.FULL, "machine", INDEX, 0, 11, (x, machine) -> question.ask(x, machine, 5));
        });
        Sentences.says("`key`: 0 to 5", () -> {
            for (int machine = 0; machine < 4; machine++) {
                int m = machine;
                Refused.outside(Stores.MIDDLE, "key", INDEX, 0, 5, (x, key) -> question.ask(x, m, key));
            }
        });
        Sentences.says(range, edges);
        Sentences.says("Throws `IndexOutOfBoundsException` if there is no such machine or key", () -> {
            Refused.machines("both", (x, machine) -> question.ask(x, machine, 6));
            Refused.machines("no", (x, machine) -> question.ask(x, machine, 0));
            Refused.keys("no", (x, key) -> question.ask(x, 0, key));
        });
    }

    // ---- terms

    private static void terms() {
        Sentences.chapter("Terms");
        Sentences.says("No machine runs what two good approvers do not hold.", SettingSentences::runsOnlyHeldOnes);
        Sentences.chapter("Changes");
        Sentences.says("Of a machine with a set of changes at its layers, for each layer and key one or none, a key has "
                + "a value as follows: the nearest layer that tells something for it decides; if that is a value, the "
                + "key has this one, from this layer; if that is MASK, or no layer tells anything, it has none.",
                SettingSentences::nearestLayerDecides);
        Sentences.says("(CLEAR tells nothing.)", () -> {
            FleetSettings x = Stores.made(THREE_LAYERS);
            Stores.held(x, 0, 0, 1);
            Stores.held(x, 1, 0, CLEAR);
            Stores.held(x, 100, 0, CLEAR);
            bothAre(x, 1, 2);
            Stores.held(x, 0, 0, CLEAR);
            bothAre(x, NONE, NONE);
        });
        Sentences.says("Two keys can exclude one another.", () -> {
            FleetSettings x = withAllKeys();
            Check.due("at first none", 0, x.hidden(0));
            x.exclude(5, 0, true);
            Check.due("the two alone", 1, x.hidden(0));
            for (int key = 0; key < 6; key++) {
                for (int other = 0; other < key; other++) {
                    x.exclude(key, other, true);
                }
            }
            Check.due("all but the one of the greatest rank", 31, x.hidden(0));
        });
        Sentences.says("Of two such keys which both have a value, the one whose value comes from the farther layer is "
                + "hidden, if both come from the same layer the one whose change has the lower rank.",
                SettingSentences::fartherOrLowerIsHidden);
        Sentences.says("A key that is hidden is not run; but it hides others as if it was not hidden.",
                SettingSentences::hiddenHides);
        Sentences.says("What is due for a machine is this with the changes that tell something, or CLEAR, at its "
                + "layers: for each layer and key the HELD change with the greatest rank.",
                SettingSentences::dueByGreatestRank);
        Sentences.says("What runs on a machine is this with the changes that it has taken, at first none; but nothing "
                + "runs on a machine that is stopped.", SettingSentences::runsByTaken);
        Sentences.says("A machine is stopped as long as a change that it has taken is not HELD; it is not busy any more "
                + "when it is stopped.", SettingSentences::stoppedIsNotBusy);
    }

    /** A value for each key from the fleet, on one machine. */
    private static FleetSettings withAllKeys() {
        FleetSettings x = Stores.withMachines(1);
        for (int key = 0; key < 6; key++) {
            Stores.held(x, 0, key, key);
        }
        return x;
    }

    /** What is due for the key 0 on the machine 0, and what runs when all is taken. */
    private static void bothAre(FleetSettings x, int value, int layer) {
        Check.due("due", value, x.due(0, 0));
        Check.due("due anew", value, x.dueAnew(0, 0));
        x.pass(20);
        Check.due("runs", value, x.runs(0, 0));
        Check.due("from the layer", layer, x.layerOf(0, 0));
    }

    private static void runsOnlyHeldOnes() {
        for (Stores.Story story : List.of(Stores.MIDDLE, Stores.FULL)) {
            FleetSettings x = Stores.made(story);
            int machines = story == Stores.FULL ? 12 : 4;
            for (int person = 0; person < 4; person++) {
                x.leave(person, true);
                runsOnlyHeldOnes(x, machines);
                x.pass(1);
                runsOnlyHeldOnes(x, machines);
            }
        }
    }

    private static void runsOnlyHeldOnes(FleetSettings x, int machines) {
        for (int cell = 0; cell < machines * 6; cell++) {
            int machine = cell / 6;
            int key = cell % 6;
            if (x.runs(machine, key) != NONE) {
                int change = x.taken(machine, x.layerOf(machine, key), key);
                Check.due("state of " + change, HELD, x.state(change));
                Check.due("approvals of " + change, true, x.approvals(change) >= 2);
            }
        }
        Check.due("asked", true, machines > 0);
    }

    private static void nearestLayerDecides() {
        FleetSettings x = Stores.made(THREE_LAYERS);
        bothAre(x, NONE, NONE);
        Stores.held(x, 0, 0, 0);
        bothAre(x, 0, 2);
        Stores.held(x, 1, 0, 99);
        bothAre(x, 99, 1);
        Stores.held(x, 100, 0, 50);
        bothAre(x, 50, 0);
        Stores.held(x, 100, 0, MASK);
        bothAre(x, NONE, NONE);
        Stores.held(x, 100, 0, CLEAR);
        bothAre(x, 99, 1);
        Stores.held(x, 1, 0, MASK);
        bothAre(x, NONE, NONE);
        Stores.held(x, 100, 0, 51);
        bothAre(x, 51, 0);
        Check.due("another machine", 0, x.due(1, 0));
        Check.due("another machine", 0, x.runs(1, 0));
        Check.due("another key", NONE, x.runs(0, 1));
    }

    private static void fartherOrLowerIsHidden() {
        FleetSettings x = Stores.made(THREE_LAYERS);
        x.exclude(0, 1, true);
        hiddenAre(x, 0);
        Stores.held(x, 100, 0, 1);
        hiddenAre(x, 0);
        Stores.held(x, 1, 1, 2);
        hiddenAre(x, 2);
        Stores.held(x, 100, 1, 3);
        hiddenAre(x, 1);
        Stores.held(x, 100, 0, 4);
        hiddenAre(x, 2);
        Stores.held(x, 100, 0, CLEAR);
        hiddenAre(x, 0);
        Stores.held(x, 0, 0, 5);
        hiddenAre(x, 1);
        Stores.held(x, 100, 1, MASK);
        hiddenAre(x, 0);
        Stores.held(x, 100, 1, CLEAR);
        hiddenAre(x, 1);
        Stores.held(x, 1, 1, CLEAR);
        hiddenAre(x, 0);
        Stores.held(x, 0, 1, 6);
        hiddenAre(x, 1);
    }

    /** What is hidden in what is due for the machine 0, and in what runs when all is taken. */
    private static void hiddenAre(FleetSettings x, int set) {
        Check.due("hidden", set, x.hidden(0));
        for (int key = 0; key < 2; key++) {
            if ((set >> key & 1) != 0) {
                Check.due("due", NONE, x.due(0, key));
                Check.due("due anew", NONE, x.dueAnew(0, key));
            }
        }
        x.pass(20);
        for (int key = 0; key < 2; key++) {
            Check.due("runs", x.due(0, key), x.runs(0, key));
        }
    }

    private static void hiddenHides() {
        FleetSettings x = withAllKeys();
        for (int key = 1; key < 6; key++) {
            x.exclude(key, key - 1, true);
        }
        Check.due("each is hidden by the next, which is hidden itself", 31, x.hidden(0));
        x.pass(1);
        for (int key = 0; key < 6; key++) {
            Check.due("runs", key == 5 ? 5 : NONE, x.runs(0, key));
            Check.due("due", key == 5 ? 5 : NONE, x.due(0, key));
            Check.due("due anew", key == 5 ? 5 : NONE, x.dueAnew(0, key));
        }
        Stores.held(x, 0, 3, MASK);
        Check.due("one without a value hides none", 1 + 2 + 16, x.hidden(0));
    }

    private static void dueByGreatestRank() {
        FleetSettings x = Stores.made(THREE_LAYERS);
        int open = x.propose(0, 0, 0, 1);
        Stores.held(x, 0, 0, 2);
        Check.due("an OPEN one is not due", 2, x.due(0, 0));
        x.approve(3, open);
        x.approve(4, open);
        Check.due("the greatest rank, not the last proposed", 1, x.due(0, 0));
        Stores.heldBy(x, 0, 5, 6, 0, 0, CLEAR);
        Check.due("CLEAR hides what its layer told before", NONE, x.due(0, 0));
        x.leave(5, true);
        Check.due("a VOID one is not due", 1, x.due(0, 0));
        Check.due("what is due needs not be taken", NONE, x.runs(0, 0));
        x.work(0, 30);
        Stores.held(x, 100, 0, 3);
        Check.due("nor needs the machine be idle", 3, x.due(0, 0));
    }

    private static void runsByTaken() {
        FleetSettings x = Stores.made(THREE_LAYERS);
        Stores.heldBy(x, 0, 1, 7, 0, 0, 1);
        Stores.held(x, 1, 1, 2);
        Check.due("at first none", NONE, x.runs(0, 0));
        x.pass(1);
        Check.due("the fleet is taken", 1, x.runs(0, 0));
        Check.due("the group is not", NONE, x.runs(0, 1));
        x.pass(1);
        Check.due("now it is", 2, x.runs(0, 1));
        x.leave(7, true);
        Check.due("stopped", NONE, x.runs(0, 0));
        Check.due("stopped with all keys", NONE, x.runs(0, 1));
        x.approve(3, 0);
        Check.due("not stopped any more", 1, x.runs(0, 0));
        Check.due("with all keys", 2, x.runs(0, 1));
    }

    private static void stoppedIsNotBusy() {
        for (int days : new int[] {1, 30}) {
            FleetSettings x = Stores.made(THREE_LAYERS);
            int change = Stores.heldBy(x, 0, 1, 7, 100, 0, 1);
            x.pass(1);
            x.work(0, days);
            x.work(1, 30);
            x.leave(7, true);
            Check.due("stopped", true, x.isStopped(0));
            Check.due("not busy any more", false, x.isBusy(0));
            Check.due("the other one is busy", true, x.isBusy(1));
            x.approve(2, change);
            Check.due("not stopped any more", false, x.isStopped(0));
            Check.due("nor busy again", false, x.isBusy(0));
            x.leave(2, true);
            Check.due("stopped again", true, x.isStopped(0));
            x.pass(1);
            Check.due("gone back", false, x.isStopped(0));
        }
    }

    // ---- promise 23

    private static void taken() {
        Sentences.chapter("Promise 23: taken");
        Sentences.says("Returns which change a machine has taken.", () -> {
            FleetSettings x = Stores.made(THREE_LAYERS);
            int first = Stores.held(x, 0, 0, 1);
            x.pass(1);
            int second = Stores.held(x, 0, 0, 1);
            Check.due("not the one that is HELD now", first, x.taken(0, 2, 0));
            x.pass(1);
            Check.due("the one that it took", second, x.taken(0, 2, 0));
            Check.due("in the layers of another machine", second, x.taken(1, 1, 0));
        });
        Sentences.says("`machine`: a machine", () -> {
            Refused.outside(Stores.MIDDLE, "machine", INDEX, 0, 3, (x, machine) -> x.taken(machine, 0, 0));
            Refused.outside(Stores.FULL, "machine", INDEX, 0, 11, (x, machine) -> x.taken(machine, 1, 5));
        });
        Sentences.says("`layer`: one of its layers", () -> {
            int[] layers = {4, 3, 3, 2};
            for (int machine = 0; machine < 4; machine++) {
                int m = machine;
                int last = layers[machine] - 1;
                Refused.outside(Stores.MIDDLE, "layer", INDEX, 0, last, (x, layer) -> x.taken(m, layer, 0));
            }
            Refused.outside(Stores.FULL, "eleven layers", INDEX, 0, 10, (x, layer) -> x.taken(0, layer, 0));
            Refused.outside(Stores.FULL, "two layers", INDEX, 0, 1, (x, layer) -> x.taken(1, layer, 0));
        });
        Sentences.says("`key`: 0 to 5", () -> {
            Refused.outside(Stores.MIDDLE, "key", INDEX, 0, 5, (x, key) -> x.taken(3, 1, key));
            Refused.outside(Stores.FULL, "key", INDEX, 0, 5, (x, key) -> x.taken(11, 10, key));
        });
        Sentences.says("Returns the change; NONE if it has taken none.", () -> {
            FleetSettings x = new FleetSettings();
            x.addMachine(0);
            for (int change = 0; change < 39; change++) {
                x.propose(0, 0, 0, 1);
            }
            Check.due("at first", NONE, x.taken(0, 1, 5));
            Stores.heldBy(x, 0, 1, 7, 0, 5, 1);
            Check.due("not yet", NONE, x.taken(0, 1, 5));
            x.pass(1);
            Check.due("the last change", 39, x.taken(0, 1, 5));
            Check.due("of another key", NONE, x.taken(0, 1, 4));
            Check.due("of another layer", NONE, x.taken(0, 0, 5));
            x.leave(7, true);
            Check.due("also one that is VOID", 39, x.taken(0, 1, 5));
            x.pass(1);
            Check.due("gone back", NONE, x.taken(0, 1, 5));
        });
        Sentences.says("Throws `IndexOutOfBoundsException` if there is no such machine, layer or key", () -> {
            Refused.machines("no", (x, machine) -> x.taken(machine, 0, 0));
            Refused.machines("none of all", (x, machine) -> x.taken(machine, 11, 6));
            int[] wrong = {Integer.MIN_VALUE, -1, 4, 11, 100, Integer.MAX_VALUE};
            Refused.each(Stores.MIDDLE, "layer", INDEX, wrong, (x, layer) -> x.taken(0, layer, 0));
            Refused.call(Stores.FULL, "layer 11", INDEX, x -> x.taken(0, 11, 0));
            Refused.keys("no", (x, key) -> x.taken(0, 0, key));
        });
    }

    // ---- promises 24 and 25

    private static void runsWhatIsTaken() {
        FleetSettings x = Stores.made(Stores.MIDDLE);
        int[][] want = {{NONE, NONE}, {10, NONE}, {10, NONE}, {NONE, NONE}};
        for (int machine = 0; machine < 4; machine++) {
            for (int key = 0; key < 2; key++) {
                Check.due("machine " + machine + " key " + key, want[machine][key], x.runs(machine, key));
            }
        }
        x.pass(2);
        for (int machine = 0; machine < 4; machine++) {
            Check.due("then", machine == Stores.BUSY_MACHINE ? 10 : 11, x.runs(machine, 0));
        }
    }

    private static void rangeOfRuns() {
        for (int what = 0; what <= 101; what++) {
            FleetSettings x = Stores.withMachines(1);
            Stores.held(x, 0, 5, what);
            x.pass(1);
            Check.due("what " + what, what < 100 ? what : NONE, x.runs(0, 5));
        }
        FleetSettings x = withAllKeys();
        x.pass(1);
        x.exclude(0, 1, true);
        Check.due("hidden", NONE, x.runs(0, 0));
        Check.due("hides", 1, x.runs(0, 1));
        x.leave(1, true);
        Check.due("stopped", NONE, x.runs(0, 1));
    }

    private static void layerOfWhatRuns() {
        for (int group = 0; group < 10; group++) {
            FleetSettings x = Stores.made(y -> Stores.addGroups(y, 0, 1, 2, 3, 4, 5, 6, 7, 8));
            x.addMachine(9);
            Stores.held(x, group, 3, group);
            x.pass(1);
            Check.due("the group " + group, 10 - group, x.layerOf(0, 3));
            x.moveMachine(0, group);
            Check.due("the nearest group", 1, x.layerOf(0, 3));
        }
        FleetSettings x = Stores.made(THREE_LAYERS);
        Stores.held(x, 100, 3, 7);
        x.pass(1);
        Check.due("itself", 0, x.layerOf(0, 3));
    }

    private static void noneIfRunsIsNone() {
        for (Stores.Story story : List.of(Stores.MIDDLE, Stores.FULL)) {
            FleetSettings x = Stores.made(story);
            int machines = story == Stores.FULL ? 12 : 4;
            for (int cell = 0; cell < machines * 6; cell++) {
                int machine = cell / 6;
                int key = cell % 6;
                boolean isNone = x.runs(machine, key) == NONE;
                Check.due("NONE at " + machine + " " + key, isNone, x.layerOf(machine, key) == NONE);
            }
        }
        FleetSettings x = withAllKeys();
        Check.due("it has none", NONE, x.layerOf(0, 0));
        x.pass(1);
        Check.due("it has one", 1, x.layerOf(0, 0));
        x.exclude(0, 1, true);
        Check.due("hidden", NONE, x.layerOf(0, 0));
        Stores.held(x, 0, 2, MASK);
        x.pass(1);
        Check.due("masked", NONE, x.layerOf(0, 2));
        x.leave(1, true);
        Check.due("stopped", NONE, x.layerOf(0, 1));
    }

    // ---- promises 26 and 27

    private static void dueIs(Question question) {
        FleetSettings x = Stores.made(Stores.MIDDLE);
        int[] want = {11, 11, 11, 11};
        for (int machine = 0; machine < 4; machine++) {
            Check.due("machine " + machine, want[machine], question.ask(x, machine, 0));
            Check.due("a masked or untold key", NONE, question.ask(x, machine, 1));
        }
        x.approve(2, Stores.VOID_CHANGE);
        Check.due("the nearest one is HELD again", 99, question.ask(x, 0, 0));
        Check.due("the others", 11, question.ask(x, 1, 0));
    }

    private static void rangeOfDue(Question question) {
        for (int what = 0; what <= 101; what++) {
            FleetSettings x = Stores.withMachines(1);
            Check.due("none", NONE, question.ask(x, 0, 5));
            Stores.held(x, 0, 5, what);
            Check.due("what " + what, what < 100 ? what : NONE, question.ask(x, 0, 5));
        }
        FleetSettings x = withAllKeys();
        x.exclude(0, 1, true);
        Check.due("hidden", NONE, question.ask(x, 0, 0));
        Check.due("hides", 1, question.ask(x, 0, 1));
        x.pass(1);
        x.leave(1, true);
        Check.due("nothing is HELD", NONE, question.ask(x, 0, 1));
    }

    private static void anewIsTheSame() {
        dueIs(FleetSettings::dueAnew);
        for (Stores.Story story : List.of(Stores.MIDDLE, Stores.FULL)) {
            for (int leaver = 0; leaver < 6; leaver++) {
                FleetSettings x = Stores.made(story);
                x.leave(leaver, true);
                x.pass(27);
                x.leave((leaver + 1) % 6, true);
                int machines = story == Stores.FULL ? 12 : 4;
                for (int cell = 0; cell < machines * 6; cell++) {
                    int anew = x.dueAnew(cell / 6, cell % 6);
                    Check.due("machine " + cell / 6 + " key " + cell % 6, x.due(cell / 6, cell % 6), anew);
                }
            }
        }
        anewByDays();
        anewByRanks();
        anewAfterVoided();
        for (int last = 0; last < 8; last++) {
            anewByLastApprover(last);
        }
    }

    private static void anewByDays() {
        for (int days = 28; days <= 31; days++) {
            FleetSettings x = Stores.withMachines(1);
            x.pass(5);
            Stores.heldBy(x, 0, 3, 4, 0, 0, 1);
            Stores.heldBy(x, 7, 3, 5, 0, 1, 2);
            int ofLate = x.propose(0, 0, 2, 3);
            x.approve(4, ofLate);
            x.pass(days);
            x.approve(5, ofLate);
            x.leave(7, true);
            Check.due("of its author, " + days + " days ago", days < 30 ? NONE : 2, x.dueAnew(0, 1));
            x.leave(4, true);
            Check.due("of its approver, " + days + " days ago", days < 30 ? NONE : 1, x.dueAnew(0, 0));
            Check.due("of one early and one late approval", days < 30 ? NONE : 3, x.dueAnew(0, 2));
            x.pass(60);
            x.leave(3, true);
            Check.due("later leavings void none of these", days < 30 ? NONE : 1, x.dueAnew(0, 0));
        }
    }

    /** Which change got its rank first, by the approvals and leavings until then. */
    private static void anewByRanks() {
        FleetSettings x = Stores.withMachines(1);
        int first = x.propose(0, 0, 0, 1);
        int second = x.propose(0, 0, 0, 2);
        x.approve(7, first);
        x.approve(1, second);
        x.approve(2, second);
        Check.due("the only one", 2, x.dueAnew(0, 0));
        x.approve(6, first);
        Check.due("its second approval came last", 1, x.dueAnew(0, 0));
        x.approve(3, second);
        Check.due("a third one does not count", 1, x.dueAnew(0, 0));
        x.leave(7, true);
        Check.due("one good approval is left", 2, x.dueAnew(0, 0));
        x.approve(5, first);
        Check.due("with the rank that it had", 1, x.dueAnew(0, 0));
        x.leave(2, true);
        Check.due("two are left to the other one", 1, x.dueAnew(0, 0));
        x.leave(6, true);
        Check.due("one is left to this one", 2, x.dueAnew(0, 0));
    }

    private static void anewAfterVoided() {
        FleetSettings x = Stores.withMachines(1);
        int late = x.propose(0, 0, 0, 1);
        x.approve(7, late);
        x.leave(7, true);
        x.approve(1, late);
        int early = Stores.held(x, 0, 0, 2);
        x.approve(3, late);
        Check.due("a voided approval did not help it to a rank", 1, x.dueAnew(0, 0));
        x.leave(2, true);
        Check.due("without its own second one", 1, x.dueAnew(0, 0));
        x.approve(4, early);
        Check.due("the other one has the rank that it had", 1, x.dueAnew(0, 0));
        int next = Stores.heldBy(x, 0, 4, 5, 0, 0, 3);
        Check.due("the next one", 3, x.dueAnew(0, 0));
        x.leave(5, true);
        Check.due("VOID", 1, x.dueAnew(0, 0));
        x.approve(6, next);
        Check.due("HELD again", 3, x.dueAnew(0, 0));
    }

    /** The later one of two changes is HELD by this person, with a leaving just before. */
    private static void anewByLastApprover(int last) {
        FleetSettings x = Stores.withMachines(1);
        int author = (last + 1) % 8;
        int one = (last + 2) % 8;
        int two = (last + 3) % 8;
        int first = x.propose(author, 0, 0, 1);
        int second = x.propose(author, 0, 0, 2);
        x.approve(one, second);
        x.approve(one, first);
        x.approve(two, first);
        Check.due("the first one", 1, x.dueAnew(0, 0));
        x.leave((last + 4) % 8, true);
        x.approve(last, second);
        Check.due("the second one, by " + last, 2, x.dueAnew(0, 0));
    }

    // ---- promise 28

    private static void behind() {
        Sentences.chapter("Promise 28: behind");
        Sentences.says("Returns in how many of its layers a machine has, for some key, not taken the HELD change with the "
                + "greatest rank, or has taken one though there is none.", () -> {
            FleetSettings x = Stores.made(THREE_LAYERS);
            Check.due("none is HELD", 0, x.behind(0));
            x.approve(1, x.propose(0, 0, 0, 1));
            Check.due("an OPEN one", 0, x.behind(0));
            Stores.heldBy(x, 0, 1, 7, 0, 5, 1);
            Stores.held(x, 0, 4, CLEAR);
            Check.due("a layer counts once", 1, x.behind(0));
            x.pass(1);
            Check.due("taken", 0, x.behind(0));
            Stores.held(x, 0, 4, CLEAR);
            Check.due("another change that tells the same", 1, x.behind(0));
            x.pass(1);
            x.leave(7, true);
            Check.due("taken though there is none", 1, x.behind(0));
            x.pass(1);
            Check.due("gone back", 0, x.behind(0));
        });
        Sentences.says("`machine`: a machine", () -> {
            Refused.outside(Stores.MIDDLE, "machine", INDEX, 0, 3, FleetSettings::behind);
            Refused.outside(Stores.FULL, "machine", INDEX, 0, 11, FleetSettings::behind);
        });
        Sentences.says("Returns how many layers.", () -> {
            FleetSettings x = Stores.made(y -> Stores.addGroups(y, 0, 1, 2, 3, 4, 5, 6, 7, 8));
            Stores.addMachines(x, 9, 0);
            for (int group = 0; group < 10; group++) {
                Check.due("layers", group, x.behind(0));
                Stores.held(x, group, group % 6, 1);
            }
            Stores.held(x, 100, 0, MASK);
            Check.due("all eleven", 11, x.behind(0));
            Check.due("the fleet alone", 1, x.behind(1));
            for (int left = 10; left >= 0; left--) {
                x.pass(1);
                Check.due("layers left", left, x.behind(0));
            }
        });
        Sentences.says("Throws `IndexOutOfBoundsException` if there is no such machine",
                () -> Refused.machines("behind", FleetSettings::behind));
    }

    // ---- promise 29

    private static void hidden() {
        Sentences.chapter("Promise 29: hidden");
        Sentences.says("Returns which keys are hidden in what is due for a machine.", () -> {
            FleetSettings x = Stores.made(THREE_LAYERS);
            x.exclude(0, 1, true);
            Stores.held(x, 0, 0, 1);
            Stores.held(x, 1, 1, 2);
            Check.due("by what is due, though none is taken", 1, x.hidden(0));
            Check.due("the other machine is not in the group", 0, x.hidden(1));
            x.work(0, 1);
            Check.due("busy", 1, x.hidden(0));
            x.pass(3);
            x.leave(1, true);
            Check.due("nothing is due any more", 0, x.hidden(0));
        });
        Sentences.says("`machine`: a machine", () -> {
            Refused.outside(Stores.MIDDLE, "machine", INDEX, 0, 3, FleetSettings::hidden);
            Refused.outside(Stores.FULL, "machine", INDEX, 0, 11, FleetSettings::hidden);
        });
        Sentences.says("Returns a set, the bit k for the key k.", () -> {
            for (int key = 0; key < 6; key++) {
                FleetSettings x = withAllKeys();
                Check.due("the empty set", 0, x.hidden(0));
                Stores.held(x, 100, (key + 1) % 6, 1);
                x.exclude(key, (key + 1) % 6, true);
                Check.due("the key " + key, 1 << key, x.hidden(0));
                for (int other = 0; other < 6; other++) {
                    if (other != (key + 1) % 6) {
                        x.exclude((key + 1) % 6, other, true);
                    }
                }
                Check.due("all but one", 63 - (1 << (key + 1) % 6), x.hidden(0));
            }
        });
        Sentences.says("Throws `IndexOutOfBoundsException` if there is no such machine",
                () -> Refused.machines("hidden", FleetSettings::hidden));
    }

    // ---- promise 30

    private static void spread() {
        Sentences.chapter("Promise 30: spread");
        Sentences.says("Returns how many machines have taken a change.", () -> {
            FleetSettings x = Stores.made(Stores.MIDDLE);
            int[] want = {4, 2, 1, 0, 0, 1, 1, 0};
            for (int change = 0; change < want.length; change++) {
                Check.due("change " + change, want[change], x.spread(change));
            }
            x.pass(1);
            Check.due("the one that came takes the place", 1, x.spread(7));
            Check.due("of the one that goes", 3, x.spread(0));
            Check.due("gone back", 0, x.spread(Stores.VOID_CHANGE));
            Check.due("gone back", 0, x.spread(5));
        });
        Sentences.says("`change`: a change", () -> {
            Refused.outside(Stores.MIDDLE, "change", INDEX, 0, 7, FleetSettings::spread);
            Refused.outside(Stores.FULL, "change", INDEX, 0, 39, FleetSettings::spread);
        });
        Sentences.says("Returns how many.", () -> {
            FleetSettings x = Stores.withMachines(12);
            int change = Stores.held(x, 0, 0, 1);
            int own = Stores.held(x, 111, 0, 1);
            x.setPace(1);
            for (int machines = 0; machines < 12; machines++) {
                Check.due("machines", machines, x.spread(change));
                x.pass(1);
            }
            Check.due("all", 12, x.spread(change));
            Check.due("none", 0, x.spread(own));
            x.pass(1);
            Check.due("one", 1, x.spread(own));
        });
        Sentences.says("Throws `IndexOutOfBoundsException` if there is no such change",
                () -> Refused.changes("spread", FleetSettings::spread));
    }
}
