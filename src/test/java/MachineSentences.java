import java.util.List;

/** The sentences about groups, machines and their steps, each with a test of its own. */
final class MachineSentences {
    private static final String INDEX = Check.INDEX;
    private static final String ARGUMENT = Check.ARGUMENT;
    private static final String STATE = Check.STATE;
    private static final int NONE = FleetSettings.NONE;
    private static final int[] DAYS_OUT_OF_RANGE = {Integer.MIN_VALUE, -30, -1, 0, 31, Integer.MAX_VALUE};
    private static final Stores.Story NINE_GROUPS = x -> Stores.addGroups(x, 0, 0, 1, 1, 2, 2, 3, 3);
    private static final Stores.Story TEN_GROUPS = x -> Stores.addGroups(x, 0, 0, 1, 1, 2, 2, 3, 3, 4);
    private static final Stores.Story ELEVEN_MACHINES = x -> Stores.addMachines(x, 0, 0, 0, 0, 0, 0, 0, 0, 0, 0, 0);
    private static final Stores.Story CHAIN = x -> {
        Stores.addGroups(x, 0, 1, 2, 3, 4, 5, 6, 7, 8);
        Stores.addMachines(x, 9, 0);
    };

    private MachineSentences() {
    }

    static void test() {
        placesAndLayers();
        addGroup();
        addMachine();
        moveMachine();
        work();
        setPace();
        isBusy();
        isStopped();
        steps();
    }

    private static int layersOf(FleetSettings x, int machine) {
        int layers = 0;
        while (layers < 100 && !INDEX.equals(takenAt(x, machine, layers))) {
            layers++;
        }
        return layers;
    }

    private static Object takenAt(FleetSettings x, int machine, int layer) {
        return Check.answerOf(() -> x.taken(machine, layer, 0));
    }

    // ---- terms

    private static void placesAndLayers() {
        Sentences.chapter("Places and layers");
        Sentences.says("There can be 10 groups, numbered from 0; the group 0 is the fleet, and is there at first; "
                + "another one has a parent, which is an earlier group.", MachineSentences::tenGroups);
        Sentences.says("There can be 12 machines, numbered from 0; a machine is in a group.",
                MachineSentences::twelveMachines);
        Sentences.says("A place is a group or a machine: it is told as the number of the group, or as 100 and the "
                + "number of the machine, together.", MachineSentences::places);
        Sentences.says("The layers of a machine are the machine itself, its group, the parent of that, and so on up "
                + "to the fleet: so the machine is the nearest layer, the fleet the farthest one.",
                MachineSentences::layers);
        Sentences.says("They are numbered from 0, the nearest one first.", MachineSentences::layersFromZero);
    }

    private static void tenGroups() {
        FleetSettings x = new FleetSettings();
        Check.due("the fleet is there", NONE, x.told(0, 0));
        for (int group = 1; group < 10; group++) {
            int own = group;
            Check.due("not there yet", INDEX, Check.answerOf(() -> x.told(own, 0)));
            Check.due("no group is its own parent", INDEX, Check.answerOf(() -> x.addGroup(own)));
            Check.due("the number", group, x.addGroup(group - 1));
            Check.due("it is there", NONE, x.told(group, 0));
        }
        Check.due("an eleventh one", STATE, Check.answerOf(() -> x.addGroup(0)));
        Refused.call(NINE_GROUPS, "its own parent", INDEX, y -> y.addGroup(9));
        Check.due("the tenth one", 9, Stores.made(NINE_GROUPS).addGroup(8));
        Refused.outside(TEN_GROUPS, "groups", INDEX, 0, 9, (y, group) -> y.addMachine(group));
    }

    private static void twelveMachines() {
        Refused.call(Stores.EMPTY, "no machine at first", INDEX, x -> x.isBusy(0));
        FleetSettings x = new FleetSettings();
        for (int machine = 0; machine < 12; machine++) {
            Check.due("the number", machine, x.addMachine(0));
            Check.due("it is in its group", 0, x.moveMachine(machine, 0));
        }
        Refused.outside(ELEVEN_MACHINES, "machines", INDEX, 0, 10, (y, machine) -> y.behind(machine));
        Check.due("the twelfth one", 11, Stores.made(ELEVEN_MACHINES).addMachine(0));
        Refused.outside(Stores.FULL, "machines", INDEX, 0, 11, (y, machine) -> y.behind(machine));
        Refused.call(Stores.FULL, "a thirteenth one", STATE, y -> y.addMachine(0));
    }

    private static void places() {
        Refused.outside(Stores.EMPTY, "groups", INDEX, 0, 0, (x, place) -> x.told(place, 0));
        Refused.outside(Stores.MIDDLE, "groups", INDEX, 0, 3, (x, place) -> x.told(place, 0));
        Refused.outside(Stores.MIDDLE, "machines", INDEX, 100, 103, (x, place) -> x.told(place, 0));
        Refused.outside(Stores.FULL, "groups", INDEX, 0, 9, (x, place) -> x.told(place, 0));
        Refused.outside(Stores.FULL, "machines", INDEX, 100, 111, (x, place) -> x.told(place, 0));
        Refused.call(Stores.EMPTY, "no machine", INDEX, x -> x.told(100, 0));
        FleetSettings x = Stores.made(TEN_GROUPS);
        Stores.addMachines(x, 9, 0);
        int group = Stores.held(x, 9, 0, 1);
        int machine = Stores.held(x, 101, 1, 2);
        x.pass(5);
        Check.due("of the group 9", group, x.taken(0, 1, 0));
        Check.due("one machine is in it", 1, x.spread(group));
        Check.due("of the machine 1", machine, x.taken(1, 0, 1));
        Check.due("one machine is it", 1, x.spread(machine));
    }

    private static void layers() {
        FleetSettings x = Stores.made(CHAIN);
        Check.due("the machine and ten groups", 11, layersOf(x, 0));
        Check.due("the machine and the fleet", 2, layersOf(x, 1));
        int fleet = Stores.held(x, 0, 0, 1);
        int group = Stores.held(x, 9, 0, 2);
        int parent = Stores.held(x, 8, 0, 3);
        int itself = Stores.held(x, 100, 0, 4);
        int other = Stores.held(x, 101, 0, 5);
        x.pass(4);
        Check.due("itself", itself, x.taken(0, 0, 0));
        Check.due("its group", group, x.taken(0, 1, 0));
        Check.due("the parent of that", parent, x.taken(0, 2, 0));
        Check.due("the fleet", fleet, x.taken(0, 10, 0));
        Check.due("itself", other, x.taken(1, 0, 0));
        Check.due("the fleet", fleet, x.taken(1, 1, 0));
        FleetSettings y = Stores.made(TEN_GROUPS);
        int[] layersByGroup = {2, 3, 3, 4, 4, 4, 4, 5, 5, 5};
        for (int home = 0; home < 10; home++) {
            y.addMachine(home);
            Check.due("layers in the group " + home, layersByGroup[home], layersOf(y, home));
        }
    }

    private static void layersFromZero() {
        for (int place = 0; place <= 9; place++) {
            FleetSettings x = Stores.made(CHAIN);
            Stores.held(x, place, 0, 7);
            x.pass(1);
            Check.due("the layer of the group " + place, 10 - place, x.layerOf(0, 0));
        }
        FleetSettings x = Stores.made(CHAIN);
        Stores.held(x, 100, 0, 7);
        x.pass(1);
        Check.due("the layer of the machine", 0, x.layerOf(0, 0));
        Refused.outside(CHAIN, "eleven layers", INDEX, 0, 10, (y, layer) -> y.taken(0, layer, 0));
        Refused.outside(CHAIN, "two layers", INDEX, 0, 1, (y, layer) -> y.taken(1, layer, 0));
    }

    // ---- promise 7

    private static void addGroup() {
        Sentences.chapter("Promise 7: addGroup");
        Sentences.says("Adds a group.", () -> {
            FleetSettings x = new FleetSettings();
            Stores.held(x, 0, 0, 5);
            int group = x.addGroup(0);
            Check.due("a place", NONE, x.told(group, 0));
            int machine = x.addMachine(group);
            Check.due("a home of machines, below its parent", 5, x.due(machine, 0));
            Check.due("a parent of groups", group + 1, x.addGroup(group));
        });
        Sentences.says("`parent`: a group", () -> {
            Refused.outside(Stores.EMPTY, "parent", INDEX, 0, 0, FleetSettings::addGroup);
            Refused.outside(Stores.MIDDLE, "parent", INDEX, 0, 3, FleetSettings::addGroup);
            Refused.outside(NINE_GROUPS, "parent", INDEX, 0, 8, FleetSettings::addGroup);
        });
        Sentences.says("Returns its number.", () -> {
            FleetSettings x = new FleetSettings();
            for (int group = 1; group < 10; group++) {
                x.addMachine(group - 1);
                Check.due("number", group, x.addGroup(0));
            }
        });
        Sentences.says("Throws `IndexOutOfBoundsException` if there is no such group",
                () -> Refused.groups("addGroup", FleetSettings::addGroup));
        Sentences.says("Throws `IllegalStateException` if there are 10", () -> {
            int[] all = {0, 1, 2, 3, 4, 5, 6, 7, 8, 9};
            Check.due("there are 9", 9, Stores.made(NINE_GROUPS).addGroup(0));
            Refused.each(TEN_GROUPS, "there are 10", STATE, all, FleetSettings::addGroup);
            Refused.each(Stores.FULL, "there are 10", STATE, all, FleetSettings::addGroup);
        });
    }

    // ---- promise 8

    private static void addMachine() {
        Sentences.chapter("Promise 8: addMachine");
        Sentences.says("Adds a machine.", () -> {
            FleetSettings x = Stores.made(Stores.MIDDLE);
            int machine = x.addMachine(3);
            Check.due("a place", NONE, x.told(100 + machine, 0));
            Check.due("not busy", false, x.isBusy(machine));
            Check.due("not stopped", false, x.isStopped(machine));
            Check.due("nothing taken", 2, x.behind(machine));
            Check.due("nothing runs", NONE, x.runs(machine, 0));
            Check.due("in its group", 3, x.moveMachine(machine, 0));
        });
        Sentences.says("`group`: a group", () -> {
            Refused.outside(Stores.EMPTY, "group", INDEX, 0, 0, FleetSettings::addMachine);
            Refused.outside(Stores.MIDDLE, "group", INDEX, 0, 3, FleetSettings::addMachine);
            Refused.outside(TEN_GROUPS, "group", INDEX, 0, 9, FleetSettings::addMachine);
        });
        Sentences.says("Returns its number.", () -> {
            FleetSettings x = Stores.made(CHAIN);
            for (int machine = 2; machine < 12; machine++) {
                Check.due("number", machine, x.addMachine(machine - 2));
            }
        });
        Sentences.says("Throws `IndexOutOfBoundsException` if there is no such group",
                () -> Refused.groups("addMachine", FleetSettings::addMachine));
        Sentences.says("Throws `IllegalStateException` if there are 12", () -> {
            Check.due("there are 11", 11, Stores.made(ELEVEN_MACHINES).addMachine(0));
            int[] all = {0, 1, 2, 3, 4, 5, 6, 7, 8, 9};
            Refused.each(Stores.FULL, "there are 12", STATE, all, FleetSettings::addMachine);
        });
    }

    // ---- promise 9

    private static void moveMachine() {
        Sentences.chapter("Promise 9: moveMachine");
        Sentences.says("Moves a machine to another group, or leaves it in its own.", () -> {
            FleetSettings x = Stores.made(CHAIN);
            x.moveMachine(0, 4);
            Check.due("another one", 6, layersOf(x, 0));
            x.moveMachine(0, 4);
            Check.due("its own", 6, layersOf(x, 0));
            x.moveMachine(0, 0);
            Check.due("the fleet", 2, layersOf(x, 0));
            x.moveMachine(0, 9);
            Check.due("the last one", 11, layersOf(x, 0));
            Check.due("the other machine stays", 2, layersOf(x, 1));
        });
        Sentences.says("The changes that it has taken in layers that it has no more are gone from it; those of places "
                + "that are its layers still stay, whatever number these have then.", MachineSentences::movesWithTaken);
        Sentences.says("`machine`: a machine", () -> {
            Refused.outside(CHAIN, "machine", INDEX, 0, 1, (x, machine) -> x.moveMachine(machine, 1));
            Refused.outside(Stores.FULL, "machine", INDEX, 0, 11, (x, machine) -> x.moveMachine(machine, 1));
        });
        Sentences.says("`group`: a group", () -> {
            Refused.outside(Stores.MIDDLE, "group", INDEX, 0, 3, (x, group) -> x.moveMachine(2, group));
            Refused.outside(Stores.FULL, "group", INDEX, 0, 9, (x, group) -> x.moveMachine(11, group));
        });
        Sentences.says("Returns the group before.", () -> {
            FleetSettings x = Stores.made(CHAIN);
            Check.due("where it was added", 9, x.moveMachine(0, 3));
            Check.due("where it was moved", 3, x.moveMachine(0, 3));
            Check.due("where it was left", 3, x.moveMachine(0, 0));
            Check.due("the fleet", 0, x.moveMachine(0, 9));
            Check.due("the other one", 0, x.moveMachine(1, 9));
        });
        Sentences.says("Throws `IndexOutOfBoundsException` if there is no such machine or group", () -> {
            Refused.machines("moveMachine", (x, machine) -> x.moveMachine(machine, 0));
            Refused.machines("moveMachine, no group either,", (x, machine) -> x.moveMachine(machine, -1));
            int[] wrong = {Integer.MIN_VALUE, -1, 4, 100, Integer.MAX_VALUE};
            for (int machine = 0; machine < 4; machine++) {
                int m = machine;
                Refused.each(Stores.MIDDLE, "group", INDEX, wrong, (x, group) -> x.moveMachine(m, group));
            }
            Refused.call(Stores.FULL, "group 10", INDEX, x -> x.moveMachine(0, 10));
        });
        Sentences.says("Throws `IllegalStateException` if it is busy", () -> {
            int[] groups = {0, 1, 2, 3};
            Stores.Story lastDay = x -> passToEndOfWork(x, 19);
            Refused.each(Stores.MIDDLE, "group", STATE, groups, (x, g) -> x.moveMachine(Stores.BUSY_MACHINE, g));
            Refused.each(lastDay, "group", STATE, groups, (x, g) -> x.moveMachine(Stores.BUSY_MACHINE, g));
            FleetSettings x = new FleetSettings();
            passToEndOfWork(x, 20);
            Check.due("not busy any more", 1, x.moveMachine(Stores.BUSY_MACHINE, 0));
            Check.due("one that is stopped", 2, Stores.made(Stores.MIDDLE).moveMachine(Stores.STOPPED_MACHINE, 2));
        });
    }

    private static void passToEndOfWork(FleetSettings x, int days) {
        Stores.MIDDLE.tell(x);
        x.pass(days);
    }

    private static void movesWithTaken() {
        FleetSettings x = Stores.made(CHAIN);
        int[] ofGroup = new int[10];
        for (int group = 0; group < 10; group++) {
            ofGroup[group] = Stores.held(x, group, group % 6, group);
        }
        int own = Stores.held(x, 100, 5, 50);
        x.pass(11);
        for (int home = 9; home >= 0; home--) {
            x.moveMachine(0, home);
            Check.due("itself", own, x.taken(0, 0, 5));
            for (int group = 0; group < 10; group++) {
                boolean isLayer = group <= home;
                int layer = home - group + 1;
                Check.due("group " + group + " at home " + home, isLayer ? ofGroup[group] : 0,
                        isLayer ? x.taken(0, layer, group % 6) : x.spread(ofGroup[group]));
            }
        }
        x.moveMachine(0, 9);
        Check.due("what is gone stays gone", 9, x.behind(0));
        Check.due("the fleet stayed", ofGroup[0], x.taken(0, 10, 0));
        Check.due("taken again", 9, x.pass(60));
        x.moveMachine(0, 0);
        for (int group = 1; group < 10; group++) {
            Check.due("gone at once, group " + group, 0, x.spread(ofGroup[group]));
        }
        movesBetweenSiblings();
    }

    private static void movesBetweenSiblings() {
        FleetSettings x = Stores.made(TEN_GROUPS);
        x.addMachine(7);
        int three = Stores.held(x, 3, 0, 1);
        int seven = Stores.held(x, 7, 0, 2);
        x.pass(2);
        x.moveMachine(0, 8);
        Check.due("to a group with the same parent", three, x.taken(0, 2, 0));
        Check.due("the group before", 0, x.spread(seven));
        Check.due("nothing taken of the new group", NONE, x.taken(0, 1, 0));
    }

    // ---- promise 10

    private static void work() {
        Sentences.chapter("Promise 10: work");
        Sentences.says("Gives a machine work: it is busy until so many days have passed; on the last of these days it "
                + "makes a step again.", MachineSentences::worksUntilTheLastDay);
        Sentences.says("`machine`: a machine",
                () -> Refused.outside(Stores.FULL, "machine", INDEX, 0, 11, (x, machine) -> x.work(machine, 1)));
        Sentences.says("`days`: 1 to 30", () -> {
            Refused.outside(Stores.FULL, "days", ARGUMENT, 1, 30, (x, days) -> x.work(11, days));
            Refused.outside(Stores.MIDDLE, "days", ARGUMENT, 1, 30, (x, days) -> x.work(Stores.IDLE_MACHINE, days));
        });
        Sentences.says("Returns the day on which it is not busy any more.", () -> {
            for (int days = 1; days <= 30; days++) {
                FleetSettings x = Stores.withMachines(1);
                Check.due("from the day 0", days, x.work(0, days));
                x.pass(60);
                Check.due("from the day 60", 60 + days, x.work(0, days));
            }
        });
        Sentences.says("Throws `IndexOutOfBoundsException` if there is no such machine", () -> {
            Refused.machines("work", (x, machine) -> x.work(machine, 1));
            Refused.machines("work of 31 days", (x, machine) -> x.work(machine, 31));
        });
        Sentences.says("Throws `IllegalArgumentException` if days is out of range", () -> {
            for (int machine = 0; machine < 4; machine++) {
                int m = machine;
                Refused.each(Stores.MIDDLE, "days", ARGUMENT, DAYS_OUT_OF_RANGE, (x, days) -> x.work(m, days));
            }
        });
        Sentences.says("Throws `IllegalStateException` if it is busy or stopped", () -> {
            Stores.Story lastDay = x -> passToEndOfWork(x, 19);
            for (int days : new int[] {1, 30}) {
                Refused.call(Stores.MIDDLE, "busy", STATE, x -> x.work(Stores.BUSY_MACHINE, days));
                Refused.call(Stores.MIDDLE, "stopped", STATE, x -> x.work(Stores.STOPPED_MACHINE, days));
                Refused.call(lastDay, "busy still", STATE, x -> x.work(Stores.BUSY_MACHINE, days));
            }
            FleetSettings x = new FleetSettings();
            passToEndOfWork(x, 20);
            Check.due("neither", 26, x.work(Stores.BUSY_MACHINE, 1));
            Check.due("not stopped any more", 27, x.work(Stores.STOPPED_MACHINE, 2));
        });
    }

    private static void worksUntilTheLastDay() {
        for (int days : new int[] {1, 2, 29, 30}) {
            FleetSettings x = Stores.withMachines(2);
            x.pass(4);
            x.work(0, days);
            int change = Stores.held(x, 0, 0, 9);
            x.work(1, 1);
            for (int passed = 1; passed < days; passed++) {
                Check.due("busy", true, x.isBusy(0));
                Check.due("a step of the other one alone", passed == 1 ? 1 : 0, x.pass(1));
                Check.due("no step", NONE, x.taken(0, 1, 0));
            }
            Check.due("busy", true, x.isBusy(0));
            Check.due("a step on the last day", days == 1 ? 2 : 1, x.pass(1));
            Check.due("not busy", false, x.isBusy(0));
            Check.due("taken", change, x.taken(0, 1, 0));
        }
    }

    // ---- promise 11

    private static void setPace() {
        Sentences.chapter("Promise 11: setPace");
        Sentences.says("Sets the pace.", () -> {
            FleetSettings x = Stores.withMachines(12);
            x.setPace(7);
            Stores.held(x, 0, 0, 1);
            Check.due("seven", 7, x.pass(1));
            x.setPace(1);
            Check.due("one", 1, x.pass(1));
            Check.due("one on each day", 4, x.pass(60));
        });
        Sentences.says("`machines`: 0 to 12: how many machines may take a layer on one day", () -> {
            for (int pace = 0; pace <= 12; pace++) {
                FleetSettings x = Stores.withMachines(12);
                x.setPace(pace);
                Stores.held(x, 0, 0, 1);
                Check.due("pace " + pace, pace, x.pass(1));
            }
            Refused.outside(Stores.FULL, "pace", ARGUMENT, 0, 12, FleetSettings::setPace);
        });
        Sentences.says("Returns the pace before.", () -> {
            FleetSettings x = new FleetSettings();
            Check.due("at first", 12, x.setPace(0));
            Check.due("the least", 0, x.setPace(12));
            Check.due("the greatest", 12, x.setPace(12));
            Check.due("the same", 12, x.setPace(1));
        });
        Sentences.says("Throws `IllegalArgumentException` if machines is out of range", () -> {
            int[] wrong = {Integer.MIN_VALUE, -12, -1, 13, 100, Integer.MAX_VALUE};
            for (Stores.Story story : List.of(Stores.EMPTY, Stores.MIDDLE, Stores.FULL)) {
                Refused.each(story, "pace", ARGUMENT, wrong, FleetSettings::setPace);
            }
        });
    }

    // ---- promise 12

    private static void isBusy() {
        Sentences.chapter("Promise 12: isBusy");
        Sentences.says("Tells whether a machine is busy.", () -> {
            FleetSettings x = Stores.made(Stores.MIDDLE);
            for (int machine = 0; machine < 4; machine++) {
                Check.due("machine " + machine, machine == Stores.BUSY_MACHINE, x.isBusy(machine));
            }
        });
        Sentences.says("`machine`: a machine", () -> {
            Refused.outside(Stores.MIDDLE, "machine", INDEX, 0, 3, FleetSettings::isBusy);
            Refused.outside(Stores.FULL, "machine", INDEX, 0, 11, FleetSettings::isBusy);
        });
        Sentences.says("Returns true if it is.", () -> {
            for (int days : new int[] {1, 30}) {
                FleetSettings x = Stores.withMachines(12);
                Check.due("at first", false, x.isBusy(11));
                x.work(11, days);
                Check.due("from the first day", true, x.isBusy(11));
                Check.due("the others", false, x.isBusy(0));
                Stores.passDays(x, days - 1);
                Check.due("to the last one", true, x.isBusy(11));
                x.pass(1);
                Check.due("not after that", false, x.isBusy(11));
            }
        });
        Sentences.says("Throws `IndexOutOfBoundsException` if there is no such machine",
                () -> Refused.machines("isBusy", FleetSettings::isBusy));
    }

    // ---- promise 13

    private static void isStopped() {
        Sentences.chapter("Promise 13: isStopped");
        Sentences.says("Tells whether a machine is stopped.", () -> {
            FleetSettings x = Stores.made(Stores.MIDDLE);
            boolean[] want = {true, false, false, true};
            for (int machine = 0; machine < 4; machine++) {
                Check.due("machine " + machine, want[machine], x.isStopped(machine));
            }
        });
        Sentences.says("`machine`: a machine", () -> {
            Refused.outside(Stores.MIDDLE, "machine", INDEX, 0, 3, FleetSettings::isStopped);
            Refused.outside(Stores.FULL, "machine", INDEX, 0, 11, FleetSettings::isStopped);
        });
        Sentences.says("Returns true if it is.", () -> {
            FleetSettings x = Stores.made(Stores.MIDDLE);
            x.approve(3, Stores.OPEN_CHANGE);
            Check.due("as long as it is VOID", true, x.isStopped(Stores.STOPPED_MACHINE));
            x.approve(2, Stores.VOID_CHANGE);
            Check.due("HELD again", false, x.isStopped(Stores.STOPPED_MACHINE));
            Check.due("by a WITHDRAWN one", true, x.isStopped(3));
            x.pass(1);
            Check.due("gone back", false, x.isStopped(3));
        });
        Sentences.says("Throws `IndexOutOfBoundsException` if there is no such machine",
                () -> Refused.machines("isStopped", FleetSettings::isStopped));
    }

    // ---- steps

    private static void steps() {
        Sentences.chapter("Steps");
        Sentences.says("When a day has passed, the machines that are stopped, or not busy, make a step, by rising "
                + "numbers:", MachineSentences::risingNumbers);
        Sentences.says("One that is stopped goes back in one layer, the nearest one in which it has taken a change that "
                + "is not HELD: in place of each such change of this layer it takes the HELD change with the greatest "
                + "rank there, for this key; none if there is none.", MachineSentences::goesBack);
        Sentences.says("Another one takes one layer, the farthest one in which for some key it has not taken the HELD "
                + "change with the greatest rank, or has taken one though there is none: for all keys it then has just "
                + "what is HELD there with the greatest rank.", MachineSentences::takesTheFarthestLayer);
        Sentences.says("At most so many machines as the pace tells take a layer on one day; going back does not "
                + "count.", MachineSentences::paceCountsTakersOnly);
    }

    private static void risingNumbers() {
        FleetSettings x = Stores.withMachines(12);
        int change = Stores.held(x, 0, 0, 1);
        x.setPace(1);
        x.work(3, 5);
        for (int day = 1; day <= 12; day++) {
            Check.due("a step on the day " + day, 1, x.pass(1));
            int stepper = day < 4 ? day - 1 : day == 4 ? 4 : day == 5 ? 3 : day - 1;
            Check.due("the step of " + stepper, change, x.taken(stepper, 1, 0));
        }
        Check.due("all of them", 12, x.spread(change));
        Check.due("no more steps", 0, x.pass(1));
    }

    private static void goesBack() {
        FleetSettings x = Stores.made(CHAIN);
        int oldNear = Stores.heldBy(x, 0, 1, 2, 100, 0, 1);
        int oldFar = Stores.heldBy(x, 0, 1, 2, 0, 0, 2);
        int good = Stores.heldBy(x, 0, 1, 2, 100, 2, 3);
        x.pass(2);
        int lostNear = Stores.heldBy(x, 0, 1, 7, 100, 0, 4);
        int aloneNear = Stores.heldBy(x, 0, 1, 7, 100, 1, 5);
        int lostFar = Stores.heldBy(x, 0, 1, 7, 0, 0, 6);
        int middle = Stores.heldBy(x, 0, 1, 7, 5, 3, 7);
        x.pass(3);
        Check.due("all taken", 0, x.behind(0));
        int later = Stores.held(x, 100, 2, 8);
        Check.due("lost", 4, x.leave(7, true));
        Check.due("both go back, in the nearest layer", 2, x.pass(1));
        Check.due("the one before", oldNear, x.taken(0, 0, 0));
        Check.due("none", NONE, x.taken(0, 0, 1));
        Check.due("other keys of the layer stay", good, x.taken(0, 0, 2));
        Check.due("a farther layer waits", middle, x.taken(0, 5, 3));
        Check.due("the farthest waits", lostFar, x.taken(0, 10, 0));
        Check.due("the other machine had it in the fleet alone", oldFar, x.taken(1, 1, 0));
        Check.due("layer by layer", 1, x.pass(1));
        Check.due("none", NONE, x.taken(0, 5, 3));
        Check.due("the farthest waits", lostFar, x.taken(0, 10, 0));
        Check.due("the last one to go back", 1, x.pass(1));
        Check.due("the one before", oldFar, x.taken(0, 10, 0));
        Check.due("none has the lost ones", 0, x.spread(lostNear) + x.spread(aloneNear) + x.spread(lostFar));
        Check.due("then it takes again", 1, x.pass(1));
        Check.due("the later one", later, x.taken(0, 0, 2));
        eachGoesBackInItsOwnLayer();
    }

    private static void eachGoesBackInItsOwnLayer() {
        FleetSettings x = Stores.withMachines(12);
        int[] own = new int[12];
        for (int machine = 0; machine < 12; machine++) {
            own[machine] = Stores.heldBy(x, 0, 1, 7, 100 + machine, machine % 6, machine);
        }
        Check.due("all take", 12, x.pass(1));
        x.leave(7, true);
        Check.due("all go back", 12, x.pass(1));
        for (int machine = 0; machine < 12; machine++) {
            Check.due("gone from " + machine, 0, x.spread(own[machine]));
            Check.due("none instead", NONE, x.taken(machine, 0, machine % 6));
        }
    }

    private static void takesTheFarthestLayer() {
        FleetSettings x = Stores.made(CHAIN);
        int[] ofGroup = new int[10];
        for (int group = 0; group < 10; group++) {
            Stores.held(x, group, 1, 1);
            ofGroup[group] = Stores.held(x, group, 1, 2);
        }
        for (int group = 0; group < 10; group++) {
            Check.due("layers to take", 10 - group, x.behind(0));
            Check.due("one of them, or also the fleet of the other one", group == 0 ? 2 : 1, x.pass(1));
            Check.due("the greatest rank of the farthest", ofGroup[group], x.taken(0, 10 - group, 1));
        }
        Check.due("no layer is left", 0, x.pass(60));
        takesAllKeysOfLayer();
    }

    private static void takesAllKeysOfLayer() {
        FleetSettings x = Stores.withMachines(1);
        for (int key = 0; key < 6; key++) {
            Stores.held(x, 0, key, key);
        }
        Check.due("all keys at once", 1, x.pass(60));
        for (int key = 0; key < 6; key++) {
            Check.due("key " + key, key, x.taken(0, 1, key));
        }
        FleetSettings y = Stores.made(CHAIN);
        Stores.held(y, 0, 0, 1);
        Stores.heldBy(y, 0, 3, 4, 0, 5, 2);
        y.pass(1);
        y.setPace(0);
        y.leave(3, true);
        Check.due("both go back", 2, y.pass(60));
        y.approve(5, 1);
        y.setPace(12);
        Check.due("both take what is HELD again", 2, y.pass(60));
        Check.due("taken", 1, y.taken(0, 10, 5));
    }

    private static void paceCountsTakersOnly() {
        for (int pace = 0; pace <= 6; pace++) {
            FleetSettings x = Stores.withMachines(12);
            for (int machine = 0; machine < 6; machine++) {
                Stores.heldBy(x, 0, 1, 7, 100 + machine, 0, 1);
            }
            x.pass(1);
            x.setPace(pace);
            x.leave(7, true);
            int change = Stores.held(x, 0, 1, 2);
            Check.due("six go back, others take at the pace", 6 + pace, x.pass(1));
            Check.due("those that took", pace, x.spread(change));
            Check.due("as many as are left at the most", Math.min(pace, 12 - pace), x.pass(1));
        }
    }
}
