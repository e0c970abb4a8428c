import java.util.List;

/** The sentences about changes, each with a test of its own. */
final class ChangeSentences {
    private static final String INDEX = Check.INDEX;
    private static final String ARGUMENT = Check.ARGUMENT;
    private static final String STATE = Check.STATE;
    private static final int NONE = FleetSettings.NONE;
    private static final int MASK = FleetSettings.MASK;
    private static final int CLEAR = FleetSettings.CLEAR;
    private static final int OPEN = FleetSettings.OPEN;
    private static final int HELD = FleetSettings.HELD;
    private static final int VOID = FleetSettings.VOID;
    private static final int WITHDRAWN = FleetSettings.WITHDRAWN;
    private static final int[] NO_WHAT = {Integer.MIN_VALUE, -100, -1, 102, 1000, Integer.MAX_VALUE};
    private static final Stores.Story THIRTY_NINE = x -> {
        for (int change = 0; change < 39; change++) {
            x.propose(0, 0, 0, change);
        }
    };

    private ChangeSentences() {
    }

    static void test() {
        terms();
        propose();
        approve();
        withdraw();
        exclude();
        changes();
        state();
        rank();
        approvals();
        told();
    }

    // ---- terms

    private static void terms() {
        Sentences.chapter("Changes");
        Sentences.says("There are the keys 0 to 5.", () -> {
            Refused.outside(Stores.FULL, "key", INDEX, 0, 5, (x, key) -> x.told(0, key));
            FleetSettings x = new FleetSettings();
            for (int key = 0; key < 6; key++) {
                Stores.held(x, 0, key, 90 + key);
            }
            for (int key = 0; key < 6; key++) {
                Check.due("key " + key, 90 + key, x.told(0, key));
            }
        });
        Sentences.says("There can be 40 changes, numbered from 0.", () -> {
            FleetSettings x = new FleetSettings();
            for (int change = 0; change < 40; change++) {
                int c = change;
                Check.due("not there yet", INDEX, Check.answerOf(() -> x.state(c)));
                Check.due("number", change, x.propose(0, 0, 0, change));
                Check.due("there", OPEN, x.state(change));
            }
            Check.due("one more", STATE, Check.answerOf(() -> x.propose(0, 0, 0, 0)));
            Refused.outside(Stores.FULL, "change", INDEX, 0, 39, FleetSettings::state);
        });
        Sentences.says("A change has an author, who is a person, a place, a key, a day on which it was proposed, and "
                + "what it tells: a value from 0 to 99; MASK; or CLEAR.", ChangeSentences::partsOfChange);
        Sentences.says("It is OPEN at first.", () -> {
            FleetSettings x = Stores.made(Stores.MIDDLE);
            for (int what : new int[] {0, 99, MASK, CLEAR}) {
                int change = x.propose(1, 103, 5, what);
                Check.due("state", OPEN, x.state(change));
                Check.due("rank", NONE, x.rank(change));
                Check.due("approvals", 0, x.approvals(change));
                Check.due("spread", 0, x.spread(change));
            }
        });
        Sentences.says("A person approves a change on a day; that approval is good, as long as it is not voided.",
                ChangeSentences::approvalsStayGood);
        Sentences.says("A change with two good approvals or more is HELD, otherwise it is not: an OPEN one that comes "
                + "to two becomes HELD, and gets the next rank, from 0 on; a HELD one that has fewer becomes VOID; a "
                + "VOID one that comes to two again is HELD again, with the rank that it had.",
                ChangeSentences::twoGoodApprovals);
        Sentences.says("A WITHDRAWN one stays so.", ChangeSentences::withdrawnStays);
        Sentences.says("When a person leaves under suspicion, all approvals that the person gave fewer than 30 days ago "
                + "are voided, and all changes of which the person is the author, and which were proposed fewer than 30 "
                + "days ago, are WITHDRAWN, whatever they were.", ChangeSentences::fewerThanThirtyDaysAgo);
        Sentences.says("What is told at a place for a key is told by the HELD change for it with the greatest rank: a "
                + "value, or MASK; nothing is told if that is CLEAR, or there is no such change.",
                ChangeSentences::greatestRankTells);
    }

    private static void partsOfChange() {
        FleetSettings x = new FleetSettings();
        Stores.addGroups(x, 0);
        Stores.addMachines(x, 1);
        for (int author = 0; author < 8; author++) {
            int change = x.propose(author, 0, 0, 0);
            int itself = author;
            Check.due("the author", STATE, Check.answerOf(() -> x.approve(itself, change)));
            Check.due("another one", OPEN, x.approve((author + 1) % 8, change));
        }
        int[] places = {0, 1, 100};
        for (int cell = 0; cell < places.length * 6; cell++) {
            int place = places[cell / 6];
            Check.due("nothing told", NONE, x.told(place, cell % 6));
            Stores.held(x, place, cell % 6, cell);
            Check.due("told there", cell, x.told(place, cell % 6));
        }
        for (int what : new int[] {0, 1, 98, 99, MASK}) {
            FleetSettings y = new FleetSettings();
            Stores.held(y, 0, 0, what);
            Check.due("what it tells", what, y.told(0, 0));
        }
        Refused.outside(Stores.EMPTY, "what", ARGUMENT, 0, 101, (y, what) -> y.propose(0, 0, 0, what));
    }

    private static void approvalsStayGood() {
        FleetSettings x = new FleetSettings();
        int change = x.propose(0, 0, 0, 1);
        x.approve(1, change);
        x.pass(60);
        x.approve(2, change);
        Check.due("sixty days later", 2, x.approvals(change));
        x.leave(2, false);
        Check.due("the person left", 2, x.approvals(change));
        x.comeBack(2);
        Check.due("and came back", 2, x.approvals(change));
        x.setDuty(0, 0);
        Check.due("nobody is on duty", 2, x.approvals(change));
        x.leave(1, true);
        Check.due("an old one is not voided", 2, x.approvals(change));
        x.leave(2, true);
        Check.due("a voided one", 1, x.approvals(change));
    }

    private static void twoGoodApprovals() {
        FleetSettings x = new FleetSettings();
        int change = x.propose(0, 0, 0, 1);
        int next = x.propose(0, 0, 1, 1);
        Check.due("none", OPEN, x.state(change));
        Check.due("one", OPEN, x.approve(1, change));
        Check.due("without a rank", NONE, x.rank(change));
        Check.due("two", HELD, x.approve(2, change));
        Check.due("the rank 0", 0, x.rank(change));
        x.approve(3, next);
        x.approve(4, next);
        Check.due("the next rank", 1, x.rank(next));
        Check.due("three", HELD, x.approve(3, change));
        Check.due("the rank stays", 0, x.rank(change));
        x.leave(1, true);
        Check.due("two are left", HELD, x.state(change));
        x.leave(2, true);
        Check.due("one is left", VOID, x.state(change));
        x.leave(3, true);
        Check.due("none is left", VOID, x.state(change));
        Check.due("with its rank", 0, x.rank(change));
        Check.due("one again", VOID, x.approve(5, change));
        Check.due("two again", HELD, x.approve(6, change));
        Check.due("the rank that it had", 0, x.rank(change));
        int last = Stores.heldBy(x, 0, 5, 6, 0, 2, 1);
        Check.due("coming again took no rank", 2, x.rank(last));
    }

    private static void withdrawnStays() {
        FleetSettings x = Stores.withMachines(1);
        int byCall = x.propose(0, 0, 0, 1);
        int byLeaving = Stores.heldBy(x, 7, 1, 2, 0, 1, 2);
        x.withdraw(byCall);
        x.leave(7, true);
        for (int change : new int[] {byCall, byLeaving}) {
            Check.due("WITHDRAWN", WITHDRAWN, x.state(change));
            Check.due("no approval", STATE, Check.answerOf(() -> x.approve(3, change)));
            Check.due("not withdrawn again", STATE, Check.answerOf(() -> Snapshot.withdraws(x, change)));
        }
        Check.due("two good ones do not make it HELD", 2, x.approvals(byLeaving));
        Check.due("it was not HELD any more", 0, x.leave(1, true));
        x.pass(60);
        Check.due("nor any more", 0, x.leave(2, true));
        x.leave(0, true);
        Check.due("by call", WITHDRAWN, x.state(byCall));
        Check.due("by leaving", WITHDRAWN, x.state(byLeaving));
        Check.due("nothing told", NONE, x.told(0, 1));
    }

    private static void fewerThanThirtyDaysAgo() {
        for (int start : new int[] {0, 1, 27, 300}) {
            for (int days : new int[] {0, 1, 28, 29, 30, 31, 59, 60}) {
                leavesAfter(start, days, days >= 30);
            }
        }
    }

    private static void leavesAfter(int start, int days, boolean isOld) {
        FleetSettings x = Stores.withMachines(1);
        Stores.passDays(x, start);
        int approved = Stores.heldBy(x, 0, 7, 2, 0, 0, 1);
        int three = Stores.heldBy(x, 0, 7, 2, 0, 1, 2);
        x.approve(3, three);
        int open = x.propose(0, 0, 2, 3);
        x.approve(7, open);
        int[] own = {x.propose(7, 0, 3, 4), Stores.heldBy(x, 7, 1, 2, 0, 4, 5), Stores.heldBy(x, 7, 6, 2, 0, 5, 6),
                x.propose(7, 0, 0, 7)};
        x.withdraw(own[3]);
        x.leave(6, true);
        Stores.passDays(x, days);
        int lateApproved = x.propose(1, 0, 0, 8);
        x.approve(7, lateApproved);
        int lateOwn = x.propose(7, 0, 0, 9);
        String after = " left " + days + " days after " + start;
        Check.due("lost," + after, isOld ? 0 : 2, x.leave(7, true));
        Check.due("HELD by two," + after, isOld ? HELD : VOID, x.state(approved));
        Check.due("approvals," + after, isOld ? 2 : 1, x.approvals(approved));
        Check.due("HELD by three," + after, HELD, x.state(three));
        Check.due("approvals," + after, isOld ? 3 : 2, x.approvals(three));
        Check.due("OPEN," + after, OPEN, x.state(open));
        Check.due("approvals," + after, isOld ? 1 : 0, x.approvals(open));
        int[] states = {OPEN, HELD, VOID, WITHDRAWN};
        for (int change = 0; change < own.length; change++) {
            int want = isOld ? states[change] : WITHDRAWN;
            Check.due("its own of " + states[change] + "," + after, want, x.state(own[change]));
        }
        Check.due("approvals of others are good", 2, x.approvals(own[1]));
        Check.due("approved today", 0, x.approvals(lateApproved));
        Check.due("proposed today", WITHDRAWN, x.state(lateOwn));
    }

    private static void greatestRankTells() {
        FleetSettings x = new FleetSettings();
        Check.due("no change", NONE, x.told(0, 0));
        int late = x.propose(0, 0, 0, 1);
        Check.due("an OPEN one", NONE, x.told(0, 0));
        int mask = Stores.heldBy(x, 0, 1, 7, 0, 0, MASK);
        Check.due("MASK", MASK, x.told(0, 0));
        x.approve(3, late);
        x.approve(4, late);
        Check.due("HELD later, though proposed earlier", 1, x.told(0, 0));
        Stores.heldBy(x, 0, 5, 6, 0, 0, CLEAR);
        Check.due("CLEAR", NONE, x.told(0, 0));
        x.leave(5, true);
        Check.due("the greatest rank of the others", 1, x.told(0, 0));
        x.leave(4, true);
        Check.due("the last one", MASK, x.told(0, 0));
        x.leave(7, true);
        Check.due("no HELD one", NONE, x.told(0, 0));
        x.approve(2, mask);
        x.approve(2, late);
        Check.due("with the rank that it had", 1, x.told(0, 0));
    }

    // ---- promise 14

    private static void propose() {
        Sentences.chapter("Promise 14: propose");
        Sentences.says("Proposes a change.", () -> {
            FleetSettings x = Stores.made(Stores.MIDDLE);
            int change = x.propose(3, 102, 5, 77);
            Check.due("one more", Stores.MIDDLE_CHANGES + 1, x.changes());
            Check.due("OPEN", OPEN, x.state(change));
            x.approve(1, change);
            x.approve(2, change);
            Check.due("told at its place", 77, x.told(102, 5));
        });
        Sentences.says("`person`: 0 to 7: its author", () -> {
            Refused.outside(Stores.EMPTY, "author", INDEX, 0, 7, (x, person) -> x.propose(person, 0, 0, 0));
            for (int person = 0; person < 8; person++) {
                int p = person;
                Refused.call(x -> x.propose(p, 0, 0, 0), "its author", STATE, x -> x.approve(p, 0));
            }
        });
        Sentences.says("`place`: a place", () -> {
            Refused.outside(Stores.EMPTY, "group", INDEX, 0, 0, (x, place) -> x.propose(0, place, 0, 0));
            Refused.outside(Stores.MIDDLE, "group", INDEX, 0, 3, (x, place) -> x.propose(0, place, 0, 0));
            Refused.outside(Stores.MIDDLE, "machine", INDEX, 100, 103, (x, place) -> x.propose(0, place, 0, 0));
        });
        Sentences.says("`key`: 0 to 5", () -> {
            Refused.outside(Stores.MIDDLE, "key", INDEX, 0, 5, (x, key) -> x.propose(0, 0, key, 0));
        });
        Sentences.says("`what`: 0 to 99; MASK; or CLEAR", () -> {
            Refused.outside(Stores.MIDDLE, "what", ARGUMENT, 0, 101, (x, what) -> x.propose(0, 0, 0, what));
        });
        Sentences.says("Returns its number.", () -> {
            FleetSettings x = new FleetSettings();
            for (int change = 0; change < 40; change++) {
                Check.due("number", change, x.propose(change % 8, 0, change % 6, change));
            }
        });
        Sentences.says("Throws `IndexOutOfBoundsException` if there is no such person, place or key", () -> {
            Refused.persons("propose by", (x, person) -> x.propose(person, 0, 0, 0));
            Refused.places("propose at", (x, place) -> x.propose(0, place, 0, 0));
            Refused.keys("propose for", (x, key) -> x.propose(0, 0, key, 0));
            Refused.call(Stores.EMPTY, "all three", INDEX, x -> x.propose(8, 1, 6, 0));
        });
        Sentences.says("Throws `IllegalArgumentException` if what is out of range", () -> {
            for (Stores.Story story : List.of(Stores.EMPTY, Stores.MIDDLE, Stores.FULL)) {
                Refused.each(story, "what", ARGUMENT, NO_WHAT, (x, what) -> x.propose(0, 0, 0, what));
            }
        });
        Sentences.says("Throws `IllegalStateException` if the person is not in service, or there are 40 changes", () -> {
            int[] gone = {Stores.LEFT_PERSON, Stores.SUSPECT_PERSON};
            Refused.each(Stores.MIDDLE, "not in service", STATE, gone, (x, person) -> x.propose(person, 0, 0, 0));
            Check.due("there are 39", 39, Stores.made(THIRTY_NINE).propose(7, 0, 5, CLEAR));
            int[] all = {0, 1, 2, 3, 4, 5, 6, 7};
            Refused.each(Stores.FULL, "there are 40", STATE, all, (x, person) -> x.propose(person, 0, 0, 0));
            FleetSettings x = Stores.made(Stores.MIDDLE);
            x.setDuty(0, 0);
            Check.due("duty is not asked for", Stores.MIDDLE_CHANGES, x.propose(5, 0, 0, 0));
        });
    }

    // ---- promise 15

    private static void approve() {
        Sentences.chapter("Promise 15: approve");
        Sentences.says("Lets a person approve a change.", () -> {
            FleetSettings x = Stores.made(Stores.MIDDLE);
            Check.due("before", 1, x.approvals(Stores.OPEN_CHANGE));
            x.approve(3, Stores.OPEN_CHANGE);
            Check.due("one more", 2, x.approvals(Stores.OPEN_CHANGE));
            Check.due("its own again is refused", STATE, Check.answerOf(() -> x.approve(3, Stores.OPEN_CHANGE)));
        });
        Sentences.says("`person`: 0 to 7", () -> {
            Refused.outside(x -> x.propose(0, 0, 0, 0), "approve by", INDEX, 0, 7, (x, p) -> x.approve(p, 0));
        });
        Sentences.says("`change`: a change", () -> {
            Refused.outside(Stores.MIDDLE, "change", INDEX, 0, 7, (x, change) -> x.approve(3, change));
            Refused.outside(Stores.FULL, "change", INDEX, 0, 39, (x, change) -> x.approve(3, change));
        });
        Sentences.says("Returns what the change is then.", () -> {
            FleetSettings x = new FleetSettings();
            int change = x.propose(0, 0, 0, 0);
            int[] want = {OPEN, OPEN, HELD, HELD, HELD, HELD, HELD, HELD};
            for (int person = 1; person < 8; person++) {
                Check.due("with " + person, want[person], x.approve(person, change));
            }
            Check.due("VOID with two of three", VOID, voidOne(new FleetSettings(), 4));
            FleetSettings y = new FleetSettings();
            voidOne(y, 4);
            Check.due("HELD again", HELD, y.approve(5, 0));
        });
        Sentences.says("Throws `IndexOutOfBoundsException` if there is no such person or change", () -> {
            Refused.changes("approve", (x, change) -> x.approve(1, change));
            Refused.persons("approve no change,", (x, person) -> x.approve(person, 40));
            int[] wrong = {Integer.MIN_VALUE, -1, 8, Integer.MAX_VALUE};
            Refused.each(Stores.MIDDLE, "person", INDEX, wrong, (x, person) -> x.approve(person, Stores.OPEN_CHANGE));
        });
        Sentences.says("Throws `IllegalStateException` if the person is not in service, not on duty in this week, is the "
                + "author, or has a good approval of it; or it is WITHDRAWN", ChangeSentences::refusedApprovals);
    }

    /** A change that both approvers of it leave; the answer to the first approval after that. */
    private static int voidOne(FleetSettings x, int approver) {
        int change = x.propose(0, 0, 0, 0);
        x.approve(1, change);
        x.approve(2, change);
        x.leave(1, true);
        x.leave(2, true);
        return x.approve(approver, change);
    }

    private static void refusedApprovals() {
        int open = Stores.OPEN_CHANGE;
        Refused.call(Stores.MIDDLE, "left", STATE, x -> x.approve(Stores.LEFT_PERSON, open));
        Refused.call(Stores.MIDDLE, "left under suspicion", STATE, x -> x.approve(Stores.SUSPECT_PERSON, open));
        Refused.call(Stores.MIDDLE, "not on duty", STATE, x -> x.approve(5, open));
        Refused.call(Stores.MIDDLE, "the author", STATE, x -> x.approve(Stores.AUTHOR_OF_OPEN, open));
        Refused.call(Stores.MIDDLE, "the author of a HELD one", STATE, x -> x.approve(0, Stores.HELD_CHANGE));
        Refused.call(Stores.MIDDLE, "a good approval", STATE, x -> x.approve(Stores.APPROVER_OF_OPEN, open));
        Refused.call(Stores.MIDDLE, "a good approval of a HELD one", STATE, x -> x.approve(1, Stores.HELD_CHANGE));
        Refused.call(Stores.MIDDLE, "a good approval of a VOID one", STATE, x -> x.approve(1, Stores.VOID_CHANGE));
        Refused.call(Stores.MIDDLE, "the author of a VOID one", STATE, x -> x.approve(3, Stores.VOID_CHANGE));
        Refused.call(Stores.MIDDLE, "WITHDRAWN by call", STATE, x -> x.approve(1, Stores.WITHDRAWN_CHANGE));
        Refused.call(Stores.MIDDLE, "WITHDRAWN by leaving", STATE, x -> x.approve(3, 5));
        Stores.Story nextWeek = x -> {
            Stores.MIDDLE.tell(x);
            x.pass(2);
        };
        Check.due("on duty in the next week", HELD, Stores.made(nextWeek).approve(5, open));
        Stores.Story turn = x -> {
            x.setDuty(0, 2);
            x.setDuty(1, 4);
            x.propose(0, 0, 0, 0);
            x.pass(6);
        };
        Refused.call(turn, "the last day of the week before", STATE, x -> x.approve(2, 0));
        Check.due("the last day of the week", OPEN, Stores.made(turn).approve(1, 0));
        Stores.Story turned = x -> {
            turn.tell(x);
            x.pass(1);
        };
        Refused.call(turned, "the first day of the week after", STATE, x -> x.approve(1, 0));
        Check.due("the first day of the week", OPEN, Stores.made(turned).approve(2, 0));
    }

    // ---- promise 16

    private static void withdraw() {
        Sentences.chapter("Promise 16: withdraw");
        Sentences.says("Withdraws a change.", () -> {
            FleetSettings x = Stores.made(Stores.MIDDLE);
            x.withdraw(Stores.OPEN_CHANGE);
            Check.due("state", WITHDRAWN, x.state(Stores.OPEN_CHANGE));
            Check.due("it counts still", Stores.MIDDLE_CHANGES, x.changes());
            Check.due("its approval is good still", 1, x.approvals(Stores.OPEN_CHANGE));
            Check.due("others stay", HELD, x.state(Stores.HELD_CHANGE));
        });
        Sentences.says("`change`: a change", () -> {
            Refused.outside(Stores.MIDDLE, "change", INDEX, 0, 7, Snapshot::withdraws);
            Refused.outside(Stores.FULL, "change", INDEX, 0, 39, Snapshot::withdraws);
        });
        Sentences.says("Throws `IndexOutOfBoundsException` if there is no such change",
                () -> Refused.changes("withdraw", Snapshot::withdraws));
        Sentences.says("Throws `IllegalStateException` if it is not OPEN", () -> {
            int[] notOpen = {Stores.HELD_CHANGE, 1, Stores.VOID_CHANGE, Stores.WITHDRAWN_CHANGE, 5, 6, 7};
            Refused.each(Stores.MIDDLE, "state", STATE, notOpen, Snapshot::withdraws);
            FleetSettings x = new FleetSettings();
            x.approve(1, x.propose(0, 0, 0, 0));
            Check.due("OPEN with one approval", "withdraws", Snapshot.withdraws(x, 0));
            Check.due("OPEN with none", "withdraws", Snapshot.withdraws(x, x.propose(0, 0, 0, 0)));
            FleetSettings y = new FleetSettings();
            voidOne(y, 3);
            Check.due("VOID with one approval", STATE, Check.answerOf(() -> Snapshot.withdraws(y, 0)));
        });
    }

    // ---- promise 17

    private static void exclude() {
        Sentences.chapter("Promise 17: exclude");
        Sentences.says("Lets two keys exclude one another, or not any more.", () -> {
            FleetSettings x = withKeys();
            for (int pair = 0; pair < 36; pair++) {
                int key = pair / 6;
                int other = pair % 6;
                if (key != other) {
                    x.exclude(key, other, true);
                    Check.due("the one of the lower rank is hidden", 1 << Math.min(key, other), x.hidden(0));
                    x.exclude(key, other, false);
                    Check.due("none is hidden", 0, x.hidden(0));
                }
            }
        });
        Sentences.says("`key`: 0 to 5", () -> {
            Refused.outside(Stores.MIDDLE, "key", INDEX, 0, 5, (x, key) -> x.exclude(key, 3, true));
        });
        Sentences.says("`other`: 0 to 5, another one", () -> {
            Refused.outside(Stores.MIDDLE, "other", INDEX, 0, 5, (x, key) -> x.exclude(3, key, true));
            for (int key = 0; key < 6; key++) {
                int same = key;
                Refused.call(Stores.MIDDLE, "not another one", ARGUMENT, x -> x.exclude(same, same, true));
            }
        });
        Sentences.says("`is`: whether they exclude one another from now on", () -> {
            FleetSettings x = withKeys();
            boolean[] calls = {false, true, true, false, false, true};
            for (boolean is : calls) {
                x.exclude(4, 2, is);
                Check.due("exclude one another", is ? 4 : 0, x.hidden(0));
            }
        });
        Sentences.says("Returns true if they did before.", () -> {
            FleetSettings x = new FleetSettings();
            Check.due("at first", false, x.exclude(0, 5, true));
            Check.due("either way", true, x.exclude(5, 0, true));
            Check.due("still", true, x.exclude(0, 5, false));
            Check.due("not any more", false, x.exclude(5, 0, false));
            Check.due("nor now", false, x.exclude(0, 5, true));
            Check.due("another pair", false, x.exclude(0, 4, true));
        });
        Sentences.says("Throws `IndexOutOfBoundsException` if there is no such key, of either", () -> {
            for (boolean is : new boolean[] {false, true}) {
                Refused.keys("exclude", (x, key) -> x.exclude(key, 0, is));
                Refused.keys("exclude other", (x, key) -> x.exclude(0, key, is));
                Refused.keys("exclude both", (x, key) -> x.exclude(key, key, is));
            }
        });
        Sentences.says("Throws `IllegalArgumentException` if both are the same", () -> {
            for (int key = 0; key < 6; key++) {
                int same = key;
                for (Stores.Story story : List.of(Stores.EMPTY, Stores.MIDDLE)) {
                    Refused.call(story, "key " + key, ARGUMENT, x -> x.exclude(same, same, true));
                    Refused.call(story, "key " + key, ARGUMENT, x -> x.exclude(same, same, false));
                }
            }
        });
    }

    /** A value for each key from the fleet, with the ranks of the keys. */
    private static FleetSettings withKeys() {
        FleetSettings x = Stores.withMachines(1);
        for (int key = 0; key < 6; key++) {
            Stores.held(x, 0, key, key);
        }
        return x;
    }

    // ---- promise 18

    private static void changes() {
        Sentences.chapter("Promise 18: changes");
        Sentences.says("Returns how many changes there are.", () -> {
            FleetSettings x = new FleetSettings();
            for (int change = 0; change < 40; change++) {
                Check.due("before", change, x.changes());
                x.propose(0, 0, 0, 0);
                if (change % 2 == 0) {
                    x.withdraw(change);
                }
            }
            Check.due("forty", 40, x.changes());
            Check.due("no more", STATE, Check.answerOf(() -> x.propose(0, 0, 0, 0)));
            x.leave(0, true);
            Check.due("WITHDRAWN ones count", 40, x.changes());
        });
    }

    // ---- promise 19

    private static void state() {
        Sentences.chapter("Promise 19: state");
        Sentences.says("Returns what a change is.", () -> {
            FleetSettings x = Stores.made(Stores.FULL);
            for (int change = 0; change < 40; change++) {
                Check.due("change " + change, change < 24 ? HELD : OPEN, x.state(change));
            }
        });
        Sentences.says("`change`: a change", () -> {
            Refused.outside(Stores.MIDDLE, "change", INDEX, 0, 7, FleetSettings::state);
            Refused.outside(Stores.FULL, "change", INDEX, 0, 39, FleetSettings::state);
        });
        Sentences.says("Returns OPEN, HELD, VOID or WITHDRAWN.", () -> {
            FleetSettings x = Stores.made(Stores.MIDDLE);
            int[] want = {HELD, HELD, VOID, OPEN, WITHDRAWN, WITHDRAWN, HELD, HELD};
            for (int change = 0; change < want.length; change++) {
                Check.due("change " + change, want[change], x.state(change));
            }
        });
        Sentences.says("Throws `IndexOutOfBoundsException` if there is no such change",
                () -> Refused.changes("state", FleetSettings::state));
    }

    // ---- promise 20

    private static void rank() {
        Sentences.chapter("Promise 20: rank");
        Sentences.says("Returns the rank of a change.", () -> {
            FleetSettings x = new FleetSettings();
            for (int change = 0; change < 40; change++) {
                x.approve(1, x.propose(0, 0, 0, change));
            }
            for (int change = 39; change >= 0; change--) {
                Check.due("before", NONE, x.rank(change));
                x.approve(2, change);
                Check.due("in the order of becoming HELD", 39 - change, x.rank(change));
            }
        });
        Sentences.says("`change`: a change", () -> {
            Refused.outside(Stores.MIDDLE, "change", INDEX, 0, 7, FleetSettings::rank);
            Refused.outside(Stores.FULL, "change", INDEX, 0, 39, FleetSettings::rank);
        });
        Sentences.says("Returns the rank; NONE if it has none.", () -> {
            FleetSettings x = Stores.made(Stores.MIDDLE);
            int[] want = {0, 1, 2, NONE, NONE, 3, 4, 5};
            for (int change = 0; change < want.length; change++) {
                Check.due("change " + change, want[change], x.rank(change));
            }
        });
        Sentences.says("Throws `IndexOutOfBoundsException` if there is no such change",
                () -> Refused.changes("rank", FleetSettings::rank));
    }

    // ---- promise 21

    private static void approvals() {
        Sentences.chapter("Promise 21: approvals");
        Sentences.says("Returns how many good approvals a change has.", () -> {
            FleetSettings x = Stores.made(Stores.MIDDLE);
            int[] want = {2, 2, 1, 1, 0, 2, 2, 2};
            for (int change = 0; change < want.length; change++) {
                Check.due("change " + change, want[change], x.approvals(change));
            }
        });
        Sentences.says("`change`: a change", () -> {
            Refused.outside(Stores.MIDDLE, "change", INDEX, 0, 7, FleetSettings::approvals);
            Refused.outside(Stores.FULL, "change", INDEX, 0, 39, FleetSettings::approvals);
        });
        Sentences.says("Returns how many.", () -> {
            FleetSettings x = new FleetSettings();
            int change = x.propose(7, 0, 0, 0);
            for (int person = 0; person < 7; person++) {
                Check.due("before", person, x.approvals(change));
                x.approve(person, change);
            }
            Check.due("all but the author", 7, x.approvals(change));
            for (int person = 0; person < 7; person++) {
                x.leave(person, true);
                Check.due("after", 6 - person, x.approvals(change));
            }
        });
        Sentences.says("Throws `IndexOutOfBoundsException` if there is no such change",
                () -> Refused.changes("approvals", FleetSettings::approvals));
    }

    // ---- promise 22

    private static void told() {
        Sentences.chapter("Promise 22: told");
        Sentences.says("Returns what is told at a place.", () -> {
            FleetSettings x = Stores.made(Stores.MIDDLE);
            int[] places = {0, 1, 2, 3, 100, 101, 102, 103};
            for (int cell = 0; cell < 6 * places.length; cell++) {
                int place = places[cell / 6];
                int key = cell % 6;
                int want = place == 0 && key == 0 ? 11 : place == 1 && key == 1 ? MASK : NONE;
                Check.due("place " + place + " key " + key, want, x.told(place, key));
            }
        });
        Sentences.says("`place`: a place", () -> {
            Refused.outside(Stores.MIDDLE, "group", INDEX, 0, 3, (x, place) -> x.told(place, 0));
            Refused.outside(Stores.MIDDLE, "machine", INDEX, 100, 103, (x, place) -> x.told(place, 0));
            Refused.outside(Stores.FULL, "group", INDEX, 0, 9, (x, place) -> x.told(place, 5));
            Refused.outside(Stores.FULL, "machine", INDEX, 100, 111, (x, place) -> x.told(place, 5));
        });
        Sentences.says("`key`: 0 to 5", () -> {
            Refused.outside(Stores.MIDDLE, "key", INDEX, 0, 5, (x, key) -> x.told(103, key));
        });
        Sentences.says("Returns 0 to 99; MASK; NONE if nothing is told.", () -> {
            for (int what = 0; what <= 101; what++) {
                FleetSettings x = Stores.withMachines(1);
                Stores.held(x, 100, 5, what);
                Check.due("what", what == CLEAR ? NONE : what, x.told(100, 5));
                Check.due("nothing is told", NONE, x.told(0, 5));
            }
        });
        Sentences.says("Throws `IndexOutOfBoundsException` if there is no such place or key", () -> {
            Refused.places("told", (x, place) -> x.told(place, 0));
            Refused.keys("told", (x, key) -> x.told(0, key));
            Refused.call(Stores.EMPTY, "both", INDEX, x -> x.told(1, 6));
        });
    }
}
