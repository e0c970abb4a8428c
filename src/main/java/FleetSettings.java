import java.util.Arrays;

/**
 * A store of settings for a fleet of machines, with approvers who take turns by weeks.
 * The document of the project says what each call promises; README.md tells how to use it.
 */
public final class FleetSettings {
    public static final int NONE = -1;
    public static final int MASK = 100, CLEAR = 101;
    public static final int OPEN = 0, HELD = 1, VOID = 2, WITHDRAWN = 3;

    private static final int PERSONS = 8;
    private static final int EVERYBODY = 255;
    private static final int DUTY_SETS = 4;
    private static final int DAYS_OF_WEEK = 7;
    private static final int MOST_DAYS_TO_PASS = 60;
    private static final int MOST_DAYS_OF_WORK = 30;
    private static final int OLD_AFTER_DAYS = 30;
    private static final int APPROVALS_TO_HOLD = 2;

    private static final int KEYS = 6;
    private static final int GROUPS = 10;
    private static final int MACHINES = 12;
    private static final int CHANGES = 40;
    private static final int FIRST_MACHINE_PLACE = 100;

    // A slot is a place counted without a gap (groups, then machines), a cell is a slot with a key.
    private static final int SLOTS = GROUPS + MACHINES;
    private static final int CELLS = SLOTS * KEYS;
    private static final int MOST_LAYERS = GROUPS + 1;

    private int today;
    private int pace = MACHINES;
    private final int[] dutySets = new int[DUTY_SETS];
    private final Person[] personRows = new Person[PERSONS];
    private final int[] parents = new int[GROUPS];
    private int groupCount = 1;
    private final Machine[] machineRows = new Machine[MACHINES];
    private int machineCount;
    private final Change[] changeRows = new Change[CHANGES];
    private int changeCount;
    private int rankCount;
    // Counts approvals and leavings, so that what came first can be told when all is found anew.
    private int moment;
    private final int[] excludedBy = new int[KEYS];
    private final Heads heads = new Heads();
    private final Heads headsAnew = new Heads();
    private final Outcome outcome = new Outcome();

    public FleetSettings() {
        Arrays.fill(dutySets, EVERYBODY);
        Arrays.fill(parents, NONE);
        for (int person = 0; person < PERSONS; person++) {
            personRows[person] = new Person();
        }
        for (int machine = 0; machine < MACHINES; machine++) {
            machineRows[machine] = new Machine(GROUPS + machine);
        }
        for (int change = 0; change < CHANGES; change++) {
            changeRows[change] = new Change();
        }
    }

    // ---- persons and days

    public int setDuty(int remainder, int persons) throws IllegalArgumentException {
        if (remainder < 0 || remainder >= DUTY_SETS || persons < 0 || persons > EVERYBODY) {
            throw new IllegalArgumentException("remainder or persons is out of range");
        }
        int before = dutySets[remainder];
        dutySets[remainder] = persons;
        return before;
    }

    public int leave(int person, boolean isSuspect) throws IndexOutOfBoundsException, IllegalStateException {
        requirePerson(person);
        Person leaver = personRows[person];
        if (!leaver.isInService) {
            throw new IllegalStateException("the person is not in service");
        }
        leaver.isInService = false;
        if (!isSuspect) {
            return 0;
        }
        moment++;
        leaver.isSuspect = true;
        leaver.leftDay = today;
        leaver.leftMoment = moment;
        return voidWhatIsNotOld(person);
    }

    public void comeBack(int person) throws IndexOutOfBoundsException, IllegalStateException {
        requirePerson(person);
        Person comer = personRows[person];
        if (comer.isInService || comer.isSuspect) {
            throw new IllegalStateException("the person is in service, or left under suspicion");
        }
        comer.isInService = true;
    }

    public int pass(int days) throws IllegalArgumentException {
        if (days < 1 || days > MOST_DAYS_TO_PASS) {
            throw new IllegalArgumentException("days is out of range");
        }
        int steps = 0;
        for (int left = days - 1; left >= 0; left--) {
            today++;
            int stepsOfDay = stepMachines();
            steps += stepsOfDay;
            if (stepsOfDay == 0 && !isAnyBusy()) {
                // Nothing can make a later day differ from a day like this.
                today += left;
                break;
            }
        }
        return steps;
    }

    public int day() {
        return today;
    }

    // ---- groups and machines

    public int addGroup(int parent) throws IndexOutOfBoundsException, IllegalStateException {
        requireGroup(parent);
        if (groupCount >= GROUPS) {
            throw new IllegalStateException("there are 10 groups");
        }
        int group = groupCount;
        parents[group] = parent;
        groupCount++;
        return group;
    }

    public int addMachine(int group) throws IndexOutOfBoundsException, IllegalStateException {
        requireGroup(group);
        if (machineCount >= MACHINES) {
            throw new IllegalStateException("there are 12 machines");
        }
        int machine = machineCount;
        machineRows[machine].enterGroup(group, parents);
        machineCount++;
        return machine;
    }

    public int moveMachine(int machine, int group) throws IndexOutOfBoundsException, IllegalStateException {
        requireMachine(machine);
        requireGroup(group);
        Machine mover = machineRows[machine];
        if (mover.freeFrom > today) {
            throw new IllegalStateException("the machine is busy");
        }
        int before = mover.group;
        mover.enterGroup(group, parents);
        return before;
    }

    public int work(int machine, int days) throws IndexOutOfBoundsException, IllegalArgumentException, IllegalStateException {
        requireMachine(machine);
        if (days < 1 || days > MOST_DAYS_OF_WORK) {
            throw new IllegalArgumentException("days is out of range");
        }
        Machine worker = machineRows[machine];
        if (worker.freeFrom > today || nearestLayerNotHeld(worker) != NONE) {
            throw new IllegalStateException("the machine is busy or stopped");
        }
        worker.freeFrom = today + days;
        return worker.freeFrom;
    }

    public int setPace(int machines) throws IllegalArgumentException {
        if (machines < 0 || machines > MACHINES) {
            throw new IllegalArgumentException("machines is out of range");
        }
        int before = pace;
        pace = machines;
        return before;
    }

    public boolean isBusy(int machine) throws IndexOutOfBoundsException {
        requireMachine(machine);
        return machineRows[machine].freeFrom > today;
    }

    public boolean isStopped(int machine) throws IndexOutOfBoundsException {
        requireMachine(machine);
        return nearestLayerNotHeld(machineRows[machine]) != NONE;
    }

    // ---- changes

    public int propose(int person, int place, int key, int what) throws IndexOutOfBoundsException, IllegalArgumentException, IllegalStateException {
        requirePerson(person);
        requirePlace(place);
        requireKey(key);
        if (what < 0 || what > CLEAR) {
            throw new IllegalArgumentException("what is out of range");
        }
        if (!personRows[person].isInService || changeCount >= CHANGES) {
            throw new IllegalStateException("the person is not in service, or there are 40 changes");
        }
        int change = changeCount;
        changeRows[change].begin(person, cellOf(slotOf(place), key), what, today);
        changeCount++;
        return change;
    }

    public int approve(int person, int change) throws IndexOutOfBoundsException, IllegalStateException {
        requirePerson(person);
        requireChange(change);
        Change approved = changeRows[change];
        if (!personRows[person].isInService || !isOnDuty(person) || !approved.canBeApprovedBy(person)) {
            throw new IllegalStateException("the person can not approve the change now");
        }
        moment++;
        approved.addApproval(person, today, moment);
        if (approved.condition != HELD && approved.countGood() >= APPROVALS_TO_HOLD) {
            hold(change);
        }
        return approved.condition;
    }

    public void withdraw(int change) throws IndexOutOfBoundsException, IllegalStateException {
        requireChange(change);
        Change withdrawn = changeRows[change];
        if (withdrawn.condition != OPEN) {
            throw new IllegalStateException("the change is not OPEN");
        }
        withdrawn.condition = WITHDRAWN;
    }

    public boolean exclude(int key, int other, boolean is) throws IndexOutOfBoundsException, IllegalArgumentException {
        requireKey(key);
        requireKey(other);
        if (key == other) {
            throw new IllegalArgumentException("both keys are the same");
        }
        boolean before = contains(excludedBy[key], other);
        excludedBy[key] = with(excludedBy[key], other, is);
        excludedBy[other] = with(excludedBy[other], key, is);
        return before;
    }

    public int changes() {
        return changeCount;
    }

    public int state(int change) throws IndexOutOfBoundsException {
        requireChange(change);
        return changeRows[change].condition;
    }

    public int rank(int change) throws IndexOutOfBoundsException {
        requireChange(change);
        return heads.rankOf(change);
    }

    public int approvals(int change) throws IndexOutOfBoundsException {
        requireChange(change);
        return changeRows[change].countGood();
    }

    public int told(int place, int key) throws IndexOutOfBoundsException {
        requirePlace(place);
        requireKey(key);
        int what = whatIsToldBy(heads.cells.get(cellOf(slotOf(place), key)));
        return what == CLEAR ? NONE : what;
    }

    // ---- machines and their settings

    public int taken(int machine, int layer, int key) throws IndexOutOfBoundsException {
        requireMachine(machine);
        Machine asked = machineRows[machine];
        if (!asked.hasLayer(layer)) {
            throw new IndexOutOfBoundsException("no such layer");
        }
        requireKey(key);
        return asked.takenCells.get(asked.cellIn(layer, key));
    }

    public int runs(int machine, int key) throws IndexOutOfBoundsException {
        requireMachine(machine);
        requireKey(key);
        findRunning(machineRows[machine]);
        return outcome.valueIfShown(key);
    }

    public int layerOf(int machine, int key) throws IndexOutOfBoundsException {
        requireMachine(machine);
        requireKey(key);
        findRunning(machineRows[machine]);
        return outcome.layerIfShown(key);
    }

    public int due(int machine, int key) throws IndexOutOfBoundsException {
        requireMachine(machine);
        requireKey(key);
        findOutcome(machineRows[machine], heads.cells, heads);
        return outcome.valueIfShown(key);
    }

    public int dueAnew(int machine, int key) throws IndexOutOfBoundsException {
        requireMachine(machine);
        requireKey(key);
        findHeadsAnew();
        findOutcome(machineRows[machine], headsAnew.cells, headsAnew);
        return outcome.valueIfShown(key);
    }

    public int behind(int machine) throws IndexOutOfBoundsException {
        requireMachine(machine);
        Machine asked = machineRows[machine];
        int layers = 0;
        for (int layer = 0; layer < asked.layerCount; layer++) {
            if (isBehindIn(asked, layer)) {
                layers++;
            }
        }
        return layers;
    }

    public int hidden(int machine) throws IndexOutOfBoundsException {
        requireMachine(machine);
        findOutcome(machineRows[machine], heads.cells, heads);
        return outcome.hiddenKeys;
    }

    public int spread(int change) throws IndexOutOfBoundsException {
        requireChange(change);
        int cell = changeRows[change].cell;
        int machines = 0;
        for (int machine = 0; machine < machineCount; machine++) {
            if (machineRows[machine].takenCells.get(cell) == change) {
                machines++;
            }
        }
        return machines;
    }

    // ---- what the arguments must be

    private static void requirePerson(int person) {
        if (person < 0 || person >= PERSONS) {
            throw new IndexOutOfBoundsException("no such person");
        }
    }

    private static void requireKey(int key) {
        if (key < 0 || key >= KEYS) {
            throw new IndexOutOfBoundsException("no such key");
        }
    }

    private void requireGroup(int group) {
        if (group < 0 || group >= groupCount) {
            throw new IndexOutOfBoundsException("no such group");
        }
    }

    private void requireMachine(int machine) {
        if (machine < 0 || machine >= machineCount) {
            throw new IndexOutOfBoundsException("no such machine");
        }
    }

    private void requirePlace(int place) {
        if (slotOf(place) == NONE) {
            throw new IndexOutOfBoundsException("no such place");
        }
    }

    private void requireChange(int change) {
        if (!isChange(change)) {
            throw new IndexOutOfBoundsException("no such change");
        }
    }

    private boolean isChange(int change) {
        return change >= 0 && change < changeCount;
    }

    // ---- places and sets

    private int slotOf(int place) {
        if (place >= 0 && place < groupCount) {
            return place;
        }
        if (place >= FIRST_MACHINE_PLACE && place < FIRST_MACHINE_PLACE + machineCount) {
            return GROUPS + place - FIRST_MACHINE_PLACE;
        }
        return NONE;
    }

    private static int cellOf(int slot, int key) {
        return slot * KEYS + key;
    }

    private static boolean contains(int set, int element) {
        return (set >> element & 1) != 0;
    }

    private static int with(int set, int element, boolean is) {
        return is ? set | 1 << element : set & ~(1 << element);
    }

    // ---- approvals and what they hold

    private boolean isOnDuty(int person) {
        int remainder = today / DAYS_OF_WEEK % DUTY_SETS;
        // The day could only be negative after far more calls than the document promises anything about.
        return remainder >= 0 && contains(dutySets[remainder], person);
    }

    private void hold(int change) {
        changeRows[change].condition = HELD;
        if (heads.rankOf(change) == NONE) {
            heads.setRank(change, rankCount);
            rankCount++;
        }
        findHeads();
    }

    /** Returns how many changes are not HELD any more by that. */
    private int voidWhatIsNotOld(int leaver) {
        int lost = 0;
        for (int change = 0; change < changeCount; change++) {
            if (changeRows[change].loseByLeaving(leaver, today)) {
                lost++;
            }
        }
        findHeads();
        for (int machine = 0; machine < machineCount; machine++) {
            Machine worker = machineRows[machine];
            if (nearestLayerNotHeld(worker) != NONE) {
                worker.freeFrom = today;
            }
        }
        return lost;
    }

    private void findHeads() {
        heads.cells.clear();
        for (int change = 0; change < changeCount; change++) {
            if (changeRows[change].condition == HELD) {
                heads.raise(changeRows[change].cell, change);
            }
        }
    }

    private void findHeadsAnew() {
        headsAnew.cells.clear();
        for (int change = 0; change < changeCount; change++) {
            headsAnew.setRank(change, changeRows[change].firstHeldMoment(personRows));
            if (changeRows[change].isHeldAnew(personRows)) {
                headsAnew.raise(changeRows[change].cell, change);
            }
        }
    }

    // ---- steps

    private int stepMachines() {
        int steps = 0;
        int takers = 0;
        for (int machine = 0; machine < machineCount; machine++) {
            Machine stepper = machineRows[machine];
            int layerNotHeld = nearestLayerNotHeld(stepper);
            if (layerNotHeld != NONE) {
                goBack(stepper, layerNotHeld);
                steps++;
            } else if (stepper.freeFrom <= today && takers < pace && takeFarthestLayer(stepper)) {
                takers++;
                steps++;
            }
        }
        return steps;
    }

    private boolean isAnyBusy() {
        for (int machine = 0; machine < machineCount; machine++) {
            if (machineRows[machine].freeFrom > today) {
                return true;
            }
        }
        return false;
    }

    /** Returns the nearest layer in which the machine has taken a change that is not HELD; NONE if there is none. */
    private int nearestLayerNotHeld(Machine machine) {
        for (int layer = 0; layer < machine.layerCount; layer++) {
            for (int key = 0; key < KEYS; key++) {
                if (isTakenNotHeld(machine.takenCells.get(machine.cellIn(layer, key)))) {
                    return layer;
                }
            }
        }
        return NONE;
    }

    private boolean isTakenNotHeld(int change) {
        return isChange(change) && changeRows[change].condition != HELD;
    }

    private void goBack(Machine machine, int layer) {
        for (int key = 0; key < KEYS; key++) {
            int cell = machine.cellIn(layer, key);
            if (isTakenNotHeld(machine.takenCells.get(cell))) {
                machine.takenCells.set(cell, heads.cells.get(cell));
            }
        }
    }

    /** Returns whether there was a layer to take. */
    private boolean takeFarthestLayer(Machine machine) {
        for (int layer = machine.layerCount - 1; layer >= 0; layer--) {
            if (isBehindIn(machine, layer)) {
                takeLayer(machine, layer);
                return true;
            }
        }
        return false;
    }

    private void takeLayer(Machine machine, int layer) {
        for (int key = 0; key < KEYS; key++) {
            int cell = machine.cellIn(layer, key);
            machine.takenCells.set(cell, heads.cells.get(cell));
        }
    }

    private boolean isBehindIn(Machine machine, int layer) {
        for (int key = 0; key < KEYS; key++) {
            int cell = machine.cellIn(layer, key);
            if (machine.takenCells.get(cell) != heads.cells.get(cell)) {
                return true;
            }
        }
        return false;
    }

    // ---- what a machine has from changes at its layers

    private void findRunning(Machine machine) {
        if (nearestLayerNotHeld(machine) != NONE) {
            outcome.forget();
        } else {
            findOutcome(machine, machine.takenCells, heads);
        }
    }

    private void findOutcome(Machine machine, Cells cells, Heads ranks) {
        outcome.forget();
        for (int key = 0; key < KEYS; key++) {
            decide(machine, cells, ranks, key);
        }
        outcome.hideExcluded(excludedBy);
    }

    private void decide(Machine machine, Cells cells, Heads ranks, int key) {
        for (int layer = 0; layer < machine.layerCount; layer++) {
            int change = cells.get(machine.cellIn(layer, key));
            int what = whatIsToldBy(change);
            if (what == MASK) {
                return;
            }
            if (what != NONE && what != CLEAR) {
                outcome.set(key, what, layer, ranks.rankOf(change));
                return;
            }
        }
    }

    /** Returns a value, MASK or CLEAR; NONE if there is no such change. */
    private int whatIsToldBy(int change) {
        return isChange(change) ? changeRows[change].what : NONE;
    }

    /** A person, with what must be known of a leaving under suspicion. */
    private static final class Person {
        boolean isInService = true;
        boolean isSuspect;
        int leftDay;
        int leftMoment;

        boolean hasVoided(int dayBefore) {
            return isSuspect && leftDay - dayBefore < OLD_AFTER_DAYS;
        }
    }

    /** A change with its approvals; a person approves it at most once, as a voided approver never comes back. */
    private static final class Change {
        int author;
        int cell;
        int what;
        int proposedDay;
        int condition = OPEN;
        int goodApprovers;
        final int[] approvedDay = new int[PERSONS];
        final int[] approvedMoment = new int[PERSONS];

        Change() {
            Arrays.fill(approvedMoment, NONE);
        }

        void begin(int person, int itsCell, int itTells, int today) {
            author = person;
            cell = itsCell;
            what = itTells;
            proposedDay = today;
        }

        boolean canBeApprovedBy(int person) {
            return person != author && condition != WITHDRAWN && !contains(goodApprovers, person);
        }

        void addApproval(int person, int today, int atMoment) {
            goodApprovers = with(goodApprovers, person, true);
            approvedDay[person] = today;
            approvedMoment[person] = atMoment;
        }

        int countGood() {
            return Integer.bitCount(goodApprovers);
        }

        /** Returns whether the change was HELD and is not any more. */
        boolean loseByLeaving(int person, int today) {
            boolean wasHeld = condition == HELD;
            if (contains(goodApprovers, person) && today - approvedDay[person] < OLD_AFTER_DAYS) {
                goodApprovers = with(goodApprovers, person, false);
            }
            if (author == person && today - proposedDay < OLD_AFTER_DAYS) {
                condition = WITHDRAWN;
            } else if (wasHeld && countGood() < APPROVALS_TO_HOLD) {
                condition = VOID;
            }
            return wasHeld && condition != HELD;
        }

        /** One that was withdrawn by a call was OPEN, so it never had approvals enough. */
        boolean isHeldAnew(Person[] persons) {
            if (isProposalVoided(persons)) {
                return false;
            }
            int good = 0;
            for (int person = 0; person < PERSONS; person++) {
                if (approvedMoment[person] != NONE && !persons[person].hasVoided(approvedDay[person])) {
                    good++;
                }
            }
            return good >= APPROVALS_TO_HOLD;
        }

        private boolean isProposalVoided(Person[] persons) {
            return author >= 0 && author < persons.length && persons[author].hasVoided(proposedDay);
        }

        /** The moments at which changes were HELD first have the order of their ranks. */
        int firstHeldMoment(Person[] persons) {
            int first = NONE;
            for (int person = 0; person < PERSONS; person++) {
                int at = approvedMoment[person];
                boolean isEarlier = at != NONE && (first == NONE || at < first);
                if (isEarlier && countGoodAt(at, persons) >= APPROVALS_TO_HOLD) {
                    first = at;
                }
            }
            return first;
        }

        private int countGoodAt(int atMoment, Person[] persons) {
            int good = 0;
            for (int person = 0; person < PERSONS; person++) {
                boolean isGiven = approvedMoment[person] != NONE && approvedMoment[person] <= atMoment;
                boolean isVoided = persons[person].hasVoided(approvedDay[person])
                        && persons[person].leftMoment < atMoment;
                if (isGiven && !isVoided) {
                    good++;
                }
            }
            return good;
        }
    }

    /** For each cell a change; NONE if there is none, or no such cell. */
    private static final class Cells {
        private final int[] changeAt = new int[CELLS];

        Cells() {
            Arrays.fill(changeAt, NONE);
        }

        void clear() {
            Arrays.fill(changeAt, NONE);
        }

        int get(int cell) {
            return isCell(cell) ? changeAt[cell] : NONE;
        }

        void set(int cell, int change) {
            if (isCell(cell)) {
                changeAt[cell] = change;
            }
        }

        private boolean isCell(int cell) {
            return cell >= 0 && cell < changeAt.length;
        }
    }

    /** For each cell the HELD change with the greatest rank, and the ranks by which that was found. */
    private static final class Heads {
        final Cells cells = new Cells();
        private final int[] rankOfChange = new int[CHANGES];

        Heads() {
            Arrays.fill(rankOfChange, NONE);
        }

        int rankOf(int change) {
            return isRanked(change) ? rankOfChange[change] : NONE;
        }

        void setRank(int change, int itsRank) {
            if (isRanked(change)) {
                rankOfChange[change] = itsRank;
            }
        }

        void raise(int cell, int change) {
            if (rankOf(cells.get(cell)) < rankOf(change)) {
                cells.set(cell, change);
            }
        }

        private boolean isRanked(int change) {
            return change >= 0 && change < rankOfChange.length;
        }
    }

    /** A machine, its layers, and the changes that it has taken at their places. */
    private static final class Machine {
        final int ownSlot;
        int group;
        int freeFrom;
        int layerCount;
        final Cells takenCells = new Cells();
        private final int[] slotOfLayer = new int[MOST_LAYERS];

        Machine(int slot) {
            ownSlot = slot;
        }

        void enterGroup(int newGroup, int[] parents) {
            group = newGroup;
            layerCount = 0;
            addLayer(ownSlot);
            int next = newGroup;
            for (int left = GROUPS; left > 0 && next >= 0 && next < parents.length; left--) {
                addLayer(next);
                next = parents[next];
            }
            dropOtherGroups();
        }

        boolean hasLayer(int layer) {
            return layer >= 0 && layer < layerCount;
        }

        /** Returns NONE if there is no such layer. */
        int cellIn(int layer, int key) {
            return hasLayer(layer) ? cellOf(slotOfLayer[layer], key) : NONE;
        }

        private void addLayer(int slot) {
            if (layerCount < slotOfLayer.length) {
                slotOfLayer[layerCount] = slot;
                layerCount++;
            }
        }

        private void dropOtherGroups() {
            for (int slot = 0; slot < GROUPS; slot++) {
                if (!isAmongLayers(slot)) {
                    drop(slot);
                }
            }
        }

        private void drop(int slot) {
            for (int key = 0; key < KEYS; key++) {
                takenCells.set(cellOf(slot, key), NONE);
            }
        }

        private boolean isAmongLayers(int slot) {
            for (int layer = 0; layer < layerCount; layer++) {
                if (slotOfLayer[layer] == slot) {
                    return true;
                }
            }
            return false;
        }
    }

    /** For each key the value that a machine has, where it comes from, and whether it is hidden. */
    private static final class Outcome {
        final int[] value = new int[KEYS];
        final int[] layer = new int[KEYS];
        final int[] rankOfKey = new int[KEYS];
        int hiddenKeys;

        void forget() {
            Arrays.fill(value, NONE);
            hiddenKeys = 0;
        }

        void set(int key, int itsValue, int itsLayer, int itsRank) {
            value[key] = itsValue;
            layer[key] = itsLayer;
            rankOfKey[key] = itsRank;
        }

        void hideExcluded(int[] excludedBy) {
            for (int key = 0; key < KEYS; key++) {
                for (int other = 0; other < KEYS; other++) {
                    if (contains(excludedBy[key], other) && yields(key, other)) {
                        hiddenKeys = with(hiddenKeys, key, true);
                    }
                }
            }
        }

        private boolean yields(int key, int other) {
            if (value[key] == NONE || value[other] == NONE) {
                return false;
            }
            if (layer[key] != layer[other]) {
                return layer[key] > layer[other];
            }
            return rankOfKey[key] < rankOfKey[other];
        }

        int valueIfShown(int key) {
            return contains(hiddenKeys, key) ? NONE : value[key];
        }

        int layerIfShown(int key) {
            return valueIfShown(key) == NONE ? NONE : layer[key];
        }
    }
}
