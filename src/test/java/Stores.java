/** Stores to begin a test with; a Story is a fixed run of calls, so that the same store can be made again. */
final class Stores {
    interface Story {
        void tell(FleetSettings x);
    }

    /** No story tells more calls, so that the questions behind it stay under the document's 512. */
    static final int MOST_CALLS = 180;

    static final Story EMPTY = x -> { };
    static final Story MIDDLE = Stores::tellMiddle;
    static final Story FULL = Stores::tellFull;

    static final int MIDDLE_GROUPS = 4;
    static final int MIDDLE_MACHINES = 4;
    /** Of MIDDLE; the machine 0 is stopped by the VOID change and the machine 3 by a WITHDRAWN one. */
    static final int HELD_CHANGE = 0;
    static final int VOID_CHANGE = 2;
    static final int OPEN_CHANGE = 3;
    static final int WITHDRAWN_CHANGE = 4;
    static final int STOPPED_MACHINE = 0;
    static final int BUSY_MACHINE = 1;
    static final int IDLE_MACHINE = 2;
    static final int AUTHOR_OF_OPEN = 0;
    static final int APPROVER_OF_OPEN = 4;
    static final int LEFT_PERSON = 6;
    static final int SUSPECT_PERSON = 7;
    static final int MIDDLE_CHANGES = 8;
    static final int MIDDLE_CALLS = 38;

    private Stores() {
    }

    static FleetSettings made(Story story) {
        FleetSettings x = new FleetSettings();
        story.tell(x);
        return x;
    }

    /** Changes of each state, a machine that is stopped, busy and idle each, persons who left. */
    private static void tellMiddle(FleetSettings x) {
        addGroups(x, 0, 1, 0);
        addMachines(x, 2, 1, 3, 0);
        held(x, 0, 0, 10);
        held(x, 1, 1, FleetSettings.MASK);
        heldBy(x, 3, 1, 7, 100, 0, 99);
        x.approve(APPROVER_OF_OPEN, x.propose(AUTHOR_OF_OPEN, 2, 3, 30));
        x.withdraw(x.propose(5, 0, 5, FleetSettings.CLEAR));
        heldBy(x, 7, 1, 2, 103, 2, 20);
        heldBy(x, 5, 1, 2, 3, 4, FleetSettings.CLEAR);
        x.exclude(0, 2, true);
        x.exclude(1, 4, true);
        x.pass(5);
        held(x, 0, 0, 11);
        x.setPace(2);
        x.setDuty(0, 255 - 32);
        x.setDuty(1, 127);
        x.leave(LEFT_PERSON, false);
        x.work(BUSY_MACHINE, 20);
        x.leave(SUSPECT_PERSON, true);
    }

    /** Ten groups in a chain, twelve machines, forty changes, of which the first 24 are HELD. */
    private static void tellFull(FleetSettings x) {
        addGroups(x, 0, 1, 2, 3, 4, 5, 6, 7, 8);
        addMachines(x, 9, 0, 1, 2, 3, 4, 5, 6, 7, 8, 9, 9);
        int[] masks = {FleetSettings.MASK, FleetSettings.CLEAR};
        for (int change = 0; change < 40; change++) {
            int place = change % 2 == 0 ? change % 10 : 100 + change % 12;
            int what = change % 5 == 0 ? masks[change % 2] : change;
            x.propose(change % 8, place, change % 6, what);
            if (change < 24) {
                x.approve((change + 1) % 8, change);
                x.approve((change + 2) % 8, change);
            }
        }
        x.exclude(0, 1, true);
        x.pass(3);
    }

    static void addGroups(FleetSettings x, int... parents) {
        for (int parent : parents) {
            x.addGroup(parent);
        }
    }

    static void addMachines(FleetSettings x, int... groups) {
        for (int group : groups) {
            x.addMachine(group);
        }
    }

    static FleetSettings withMachines(int machines) {
        FleetSettings x = new FleetSettings();
        for (int m = 0; m < machines; m++) {
            Check.due("a machine", m, x.addMachine(0));
        }
        return x;
    }

    /** Proposes a change of the person 0, and lets 1 and 2 hold it. */
    static int held(FleetSettings x, int place, int key, int what) {
        return heldBy(x, 0, 1, 2, place, key, what);
    }

    static int heldBy(FleetSettings x, int author, int one, int two, int place, int key, int what) {
        int change = x.propose(author, place, key, what);
        Check.due("one approval", FleetSettings.OPEN, x.approve(one, change));
        Check.due("two approvals", FleetSettings.HELD, x.approve(two, change));
        return change;
    }

    static void passDays(FleetSettings x, int days) {
        for (int left = days; left > 0; left -= 60) {
            x.pass(Math.min(left, 60));
        }
    }
}
