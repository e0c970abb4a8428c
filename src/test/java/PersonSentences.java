import java.util.List;

/** The sentences about persons and days, each with a test of its own. */
final class PersonSentences {
    private static final String INDEX = Check.INDEX;
    private static final String ARGUMENT = Check.ARGUMENT;
    private static final String STATE = Check.STATE;
    private static final int OPEN = FleetSettings.OPEN;
    private static final int HELD = FleetSettings.HELD;
    private static final int VOID = FleetSettings.VOID;
    private static final int WITHDRAWN = FleetSettings.WITHDRAWN;
    private static final Stores.Story ALL_LEFT = x -> {
        for (int person = 0; person < 8; person++) {
            x.leave(person, false);
        }
    };

    /** Days without a step come before and between the days on which the machines end their work. */
    private static final Stores.Story ALL_BUSY = x -> {
        Stores.addMachines(x, 0, 0, 0, 0);
        x.pass(1);
        Stores.held(x, 0, 0, 1);
        for (int machine = 0; machine < 4; machine++) {
            x.work(machine, 29 - 8 * machine);
        }
    };

    private PersonSentences() {
    }

    static void test() {
        daysAndPersons();
        newObject();
        setDuty();
        leave();
        comeBack();
        pass();
        day();
    }

    // ---- terms

    private static void daysAndPersons() {
        Sentences.chapter("Days and persons");
        Sentences.says("The day is 0 at first.", () -> Check.due("day", 0, new FleetSettings().day()));
        Sentences.says("The week of a day is the day divided by 7, rounded down.", PersonSentences::weeks);
        Sentences.says("There are the persons 0 to 7, all in service at first.", PersonSentences::persons);
        Sentences.says("Weeks go round by four: on duty in a week are those of the set for the remainder of the week"
                + " by 4; at first all are in each of the four sets.", PersonSentences::weeksGoRound);
    }

    /** One person on duty for each remainder: 1 in the first week, 2 in the next one, and so on. */
    private static FleetSettings withTurns() {
        FleetSettings x = new FleetSettings();
        for (int remainder = 0; remainder < 4; remainder++) {
            x.setDuty(remainder, 2 << remainder);
        }
        return x;
    }

    private static void onDuty(FleetSettings x, int day, int person) {
        Check.due("day", day, x.day());
        onDutyAre(x, 1 << person);
    }

    private static void onDutyAre(FleetSettings x, int set) {
        int ofOne = x.propose(0, 0, 0, 1);
        int ofZero = x.propose(1, 0, 0, 1);
        for (int person = 0; person < 8; person++) {
            int p = person;
            Object got = Check.answerOf(() -> x.approve(p, p == 0 ? ofZero : ofOne));
            Check.due("day " + x.day() + " person " + p + " is on duty", (set >> p & 1) != 0, !STATE.equals(got));
        }
    }

    private static void weeks() {
        FleetSettings x = withTurns();
        onDuty(x, 0, 1);
        x.pass(6);
        onDuty(x, 6, 1);
        x.pass(1);
        onDuty(x, 7, 2);
        x.pass(6);
        onDuty(x, 13, 2);
        x.pass(1);
        onDuty(x, 14, 3);
        x.pass(6);
        onDuty(x, 20, 3);
        x.pass(1);
        onDuty(x, 21, 4);
    }

    private static void weeksGoRound() {
        FleetSettings x = withTurns();
        x.pass(27);
        onDuty(x, 27, 4);
        x.pass(1);
        onDuty(x, 28, 1);
        x.pass(7);
        onDuty(x, 35, 2);
        x.pass(20);
        onDuty(x, 55, 4);
        x.pass(1);
        onDuty(x, 56, 1);
        Stores.passDays(x, 28 * 100 - 1 - 56);
        onDuty(x, 2799, 4);
        x.pass(1);
        onDuty(x, 2800, 1);
        FleetSettings y = new FleetSettings();
        for (int week = 0; week < 5; week++) {
            onDutyAre(y, 255);
            y.pass(7);
        }
    }

    private static void persons() {
        for (int person = 0; person < 8; person++) {
            int p = person;
            Refused.call(Stores.EMPTY, "in service is " + p, STATE, x -> Snapshot.comesBack(x, p));
        }
        Refused.outside(Stores.EMPTY, "propose by", INDEX, 0, 7, (x, p) -> x.propose(p, 0, 0, 0));
        Refused.outside(Stores.EMPTY, "leave", INDEX, 0, 7, (x, p) -> x.leave(p, false));
    }

    // ---- promise 1

    private static void newObject() {
        Sentences.chapter("Promise 1: A new object");
        Sentences.says("A store with the fleet alone, at the day 0; the pace is 12.", () -> {
            FleetSettings x = Stores.withMachines(12);
            Check.due("day", 0, x.day());
            Check.due("changes", 0, x.changes());
            int change = Stores.held(x, 0, 0, 1);
            Check.due("all twelve on one day", 12, x.pass(1));
            Check.due("all twelve", 12, x.spread(change));
            Check.due("pace", 12, x.setPace(12));
            Refused.call(Stores.EMPTY, "a second group", INDEX, y -> y.told(1, 0));
            Refused.call(Stores.EMPTY, "a machine", INDEX, y -> y.told(100, 0));
            Refused.call(Stores.EMPTY, "a change", INDEX, y -> y.state(0));
        });
    }

    // ---- promise 2

    private static void setDuty() {
        Sentences.chapter("Promise 2: setDuty");
        Sentences.says("Sets who is on duty.", () -> {
            FleetSettings x = new FleetSettings();
            x.setDuty(0, 1 + 4 + 128);
            onDutyAre(x, 1 + 4 + 128);
            x.setDuty(0, 2);
            onDutyAre(x, 2);
        });
        Sentences.says("`remainder`: 0 to 3: in weeks with this remainder by 4", PersonSentences::remainders);
        Sentences.says("`persons`: 0 to 255: a set, the bit p for the person p", PersonSentences::dutySets);
        Sentences.says("Returns the set before.", () -> {
            FleetSettings x = new FleetSettings();
            for (int remainder = 0; remainder < 4; remainder++) {
                Check.due("at first", 255, x.setDuty(remainder, remainder));
            }
            for (int remainder = 0; remainder < 4; remainder++) {
                Check.due("the one set", remainder, x.setDuty(remainder, 0));
                Check.due("the empty one", 0, x.setDuty(remainder, 255));
                Check.due("the full one", 255, x.setDuty(remainder, 255));
            }
        });
        Sentences.says("Throws `IllegalArgumentException` if remainder or persons is out of range", () -> {
            int[] remainders = {Integer.MIN_VALUE, -4, -1, 4, 7, Integer.MAX_VALUE};
            int[] sets = {Integer.MIN_VALUE, -256, -1, 256, 511, Integer.MAX_VALUE};
            for (Stores.Story story : List.of(Stores.EMPTY, Stores.MIDDLE)) {
                Refused.each(story, "remainder", ARGUMENT, remainders, (x, r) -> x.setDuty(r, 1));
                Refused.each(story, "persons", ARGUMENT, sets, (x, set) -> x.setDuty(0, set));
                Refused.each(story, "both", ARGUMENT, sets, (x, set) -> x.setDuty(4, set));
            }
        });
    }

    private static void remainders() {
        for (int remainder = 0; remainder < 4; remainder++) {
            FleetSettings x = new FleetSettings();
            x.setDuty(remainder, 0);
            for (int week = 0; week < 6; week++) {
                onDutyAre(x, week % 4 == remainder ? 0 : 255);
                x.pass(7);
            }
        }
        Refused.outside(Stores.MIDDLE, "remainder", ARGUMENT, 0, 3, (x, r) -> x.setDuty(r, 0));
    }

    private static void dutySets() {
        for (int person = 0; person < 8; person++) {
            FleetSettings x = new FleetSettings();
            x.setDuty(0, 1 << person);
            onDutyAre(x, 1 << person);
            x.setDuty(0, 0);
            onDutyAre(x, 0);
            x.setDuty(0, 255);
            onDutyAre(x, 255);
        }
        Refused.outside(Stores.EMPTY, "persons", ARGUMENT, 0, 255, (x, set) -> x.setDuty(3, set));
    }

    // ---- promise 3

    private static void leave() {
        Sentences.chapter("Promise 3: leave");
        Sentences.says("Lets a person leave the service.", () -> {
            FleetSettings x = new FleetSettings();
            int change = x.propose(0, 0, 0, 1);
            x.leave(1, false);
            x.leave(2, true);
            for (int person = 1; person < 4; person++) {
                int p = person;
                Check.due("approves", p < 3 ? STATE : (Object) OPEN, Check.answerOf(() -> x.approve(p, change)));
                Check.due("proposes", p < 3 ? STATE : (Object) 1, Check.answerOf(() -> x.propose(p, 0, 0, 2)));
            }
        });
        Sentences.says("`person`: 0 to 7", () -> {
            Refused.outside(Stores.EMPTY, "without suspicion", INDEX, 0, 7, (x, p) -> x.leave(p, false));
            Refused.outside(Stores.FULL, "under suspicion", INDEX, 0, 7, (x, p) -> x.leave(p, true));
        });
        Sentences.says("`isSuspect`: whether that is under suspicion", () -> {
            for (boolean isSuspect : new boolean[] {false, true}) {
                FleetSettings x = new FleetSettings();
                int change = Stores.heldBy(x, 3, 1, 2, 0, 0, 5);
                x.leave(1, isSuspect);
                Check.due("approvals", isSuspect ? 1 : 2, x.approvals(change));
                Check.due("state", isSuspect ? VOID : HELD, x.state(change));
                x.leave(3, isSuspect);
                Check.due("state", isSuspect ? WITHDRAWN : HELD, x.state(change));
            }
        });
        Sentences.says("Returns how many changes that were HELD are not HELD any more by that.", () -> {
            Check.due("of no change", 0, new FleetSettings().leave(0, true));
            losesFortyByApprover();
            losesFortyByAuthor();
            losesOnlyHeldOnes();
        });
        Sentences.says("Throws `IndexOutOfBoundsException` if there is no such person", () -> {
            Refused.persons("without suspicion", (x, p) -> x.leave(p, false));
            Refused.persons("under suspicion", (x, p) -> x.leave(p, true));
        });
        Sentences.says("Throws `IllegalStateException` if the person is not in service", () -> {
            int[] gone = {Stores.LEFT_PERSON, Stores.SUSPECT_PERSON};
            Refused.each(Stores.MIDDLE, "without suspicion", STATE, gone, (x, p) -> x.leave(p, false));
            Refused.each(Stores.MIDDLE, "under suspicion", STATE, gone, (x, p) -> x.leave(p, true));
            int[] all = {0, 1, 2, 3, 4, 5, 6, 7};
            Refused.each(ALL_LEFT, "without suspicion", STATE, all, (x, p) -> x.leave(p, false));
            Refused.each(ALL_LEFT, "under suspicion", STATE, all, (x, p) -> x.leave(p, true));
        });
    }

    private static FleetSettings withFortyHeld() {
        FleetSettings x = new FleetSettings();
        for (int change = 0; change < 40; change++) {
            Stores.held(x, 0, change % 6, change);
        }
        return x;
    }

    private static void losesFortyByApprover() {
        FleetSettings x = withFortyHeld();
        Check.due("all forty are VOID", 40, x.leave(1, true));
        Check.due("they are VOID already", 0, x.leave(2, true));
        Check.due("nor were they HELD", 0, x.leave(0, true));
    }

    private static void losesFortyByAuthor() {
        FleetSettings x = withFortyHeld();
        Check.due("without suspicion", 0, x.leave(2, false));
        Check.due("all forty are WITHDRAWN", 40, x.leave(0, true));
        Check.due("they are WITHDRAWN already", 0, x.leave(1, true));
    }

    private static void losesOnlyHeldOnes() {
        FleetSettings x = new FleetSettings();
        x.approve(1, x.propose(0, 0, 0, 1));
        x.withdraw(x.propose(1, 0, 0, 2));
        x.approve(3, Stores.held(x, 0, 1, 3));
        x.propose(1, 0, 0, 4);
        Check.due("OPEN, WITHDRAWN, and HELD by two others", 0, x.leave(1, true));
        int ofTwo = Stores.heldBy(x, 0, 2, 3, 0, 2, 5);
        x.pass(29);
        Stores.heldBy(x, 0, 4, 6, 0, 3, 6);
        Stores.heldBy(x, 2, 4, 5, 0, 4, 7);
        int ofFive = Stores.heldBy(x, 3, 5, 6, 0, 5, 8);
        Check.due("two by approvals of 29 days ago, one of its own", 3, x.leave(2, true));
        Check.due("state", VOID, x.state(ofTwo));
        x.pass(29);
        Check.due("one by an approval of 29 days ago", 1, x.leave(4, true));
        x.pass(1);
        Check.due("none by an approval of 30 days ago", 0, x.leave(5, true));
        Check.due("state", HELD, x.state(ofFive));
    }

    // ---- promise 4

    private static void comeBack() {
        Sentences.chapter("Promise 4: comeBack");
        Sentences.says("Lets a person who left come into service again.", PersonSentences::comesAndGoes);
        Sentences.says("`person`: 0 to 7",
                () -> Refused.outside(ALL_LEFT, "comeBack", INDEX, 0, 7, Snapshot::comesBack));
        Sentences.says("Throws `IndexOutOfBoundsException` if there is no such person", () -> {
            Refused.persons("comeBack", Snapshot::comesBack);
            int[] wrong = {Integer.MIN_VALUE, -1, 8, Integer.MAX_VALUE};
            Refused.each(ALL_LEFT, "comeBack", INDEX, wrong, Snapshot::comesBack);
        });
        Sentences.says("Throws `IllegalStateException` if the person is in service, or left under suspicion", () -> {
            int[] all = {0, 1, 2, 3, 4, 5, 6, 7};
            Refused.each(Stores.EMPTY, "in service", STATE, all, Snapshot::comesBack);
            Refused.call(Stores.MIDDLE, "under suspicion", STATE, x -> Snapshot.comesBack(x, Stores.SUSPECT_PERSON));
            Stores.Story longAgo = x -> {
                Stores.MIDDLE.tell(x);
                x.pass(60);
                x.comeBack(Stores.LEFT_PERSON);
            };
            Refused.call(longAgo, "long ago", STATE, x -> Snapshot.comesBack(x, Stores.SUSPECT_PERSON));
            Refused.call(longAgo, "back already", STATE, x -> Snapshot.comesBack(x, Stores.LEFT_PERSON));
        });
    }

    private static void comesAndGoes() {
        FleetSettings x = new FleetSettings();
        int change = x.propose(0, 0, 0, 1);
        x.approve(3, change);
        for (int time = 0; time < 3; time++) {
            x.leave(3, false);
            Check.due("out of service", STATE, Check.answerOf(() -> x.propose(3, 0, 0, 2)));
            Check.due("comes back", "comes", Snapshot.comesBack(x, 3));
            Check.due("in service", 1 + time, x.propose(3, 0, 0, 2));
            Check.due("the approval stayed good", 1, x.approvals(change));
        }
        x.pass(29);
        x.leave(3, false);
        x.comeBack(3);
        x.leave(3, true);
        Check.due("voided by the last leaving", 0, x.approvals(change));
    }

    // ---- promise 5

    private static void pass() {
        Sentences.chapter("Promise 5: pass");
        Sentences.says("Lets days pass, one after the other, with the steps of machines.", () -> {
            for (Stores.Story story : List.of(Stores.EMPTY, Stores.MIDDLE, Stores.FULL, ALL_BUSY)) {
                for (int days : new int[] {2, 7, 21, 60}) {
                    Check.due(days + " days, one by one", "", Snapshot.difference(
                            Snapshot.of(x -> passOneByOne(x, story, days)), Snapshot.of(x -> passAtOnce(x, story, days))));
                }
            }
        });
        Sentences.says("`days`: 1 to 60", () -> {
            for (Stores.Story story : List.of(Stores.EMPTY, Stores.MIDDLE)) {
                Refused.outside(story, "days", ARGUMENT, 1, 60, (x, days) -> x.pass(days));
            }
        });
        Sentences.says("Returns how many steps were made, that changed something.", PersonSentences::countsSteps);
        Sentences.says("Throws `IllegalArgumentException` if days is out of range", () -> {
            int[] wrong = {Integer.MIN_VALUE, -60, -1, 0, 61, Integer.MAX_VALUE};
            for (Stores.Story story : List.of(Stores.EMPTY, Stores.MIDDLE, Stores.FULL)) {
                Refused.each(story, "days", ARGUMENT, wrong, (x, days) -> x.pass(days));
            }
        });
    }

    private static int passOneByOne(FleetSettings x, Stores.Story story, int days) {
        story.tell(x);
        int steps = 0;
        for (int day = 0; day < days; day++) {
            steps += x.pass(1);
        }
        return steps;
    }

    private static int passAtOnce(FleetSettings x, Stores.Story story, int days) {
        story.tell(x);
        return x.pass(days);
    }

    private static void countsSteps() {
        for (Stores.Story story : List.of(Stores.MIDDLE, Stores.FULL, ALL_BUSY)) {
            for (int days = 1; days <= 60; days++) {
                Check.due("steps of " + days + " days", passOneByOne(new FleetSettings(), story, days),
                        passAtOnce(new FleetSettings(), story, days));
            }
        }
        Check.due("no machine", 0, new FleetSettings().pass(60));
        Check.due("nothing to take", 0, Stores.withMachines(12).pass(60));
        FleetSettings x = Stores.made(Stores.MIDDLE);
        Check.due("two go back, one takes", 3, x.pass(1));
        Check.due("the two take", 2, x.pass(1));
        Check.due("nothing more but for the busy one", 0, x.pass(17));
        Check.due("day", 24, x.day());
        Check.due("busy no more", 1, x.pass(1));
        Check.due("all at rest", 0, x.pass(60));
    }

    // ---- promise 6

    private static void day() {
        Sentences.chapter("Promise 6: day");
        Sentences.says("Returns the day.", () -> {
            FleetSettings x = new FleetSettings();
            Check.due("at first", 0, x.day());
            x.pass(1);
            Check.due("a day", 1, x.day());
            x.pass(60);
            Check.due("sixty more", 61, x.day());
            FleetSettings y = new FleetSettings();
            for (int call = 0; call < 511; call++) {
                y.pass(60);
            }
            Check.due("the 512th call", 511 * 60, y.day());
        });
    }
}
