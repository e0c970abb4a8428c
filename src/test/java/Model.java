import java.util.ArrayList;
import java.util.HashMap;
import java.util.HashSet;
import java.util.List;
import java.util.Map;
import java.util.Set;

/** The store as the document tells it, slow and with nothing kept that can be found; ModelTest compares with it. */
public final class Model {
    private static final class Approval {
        int person;
        int day;
        boolean isVoided;
    }

    private static final class Change {
        int author;
        int place;
        int key;
        int what;
        int day;
        int state;
        int rank = -1;
        final List<Approval> approvals = new ArrayList<>();

        int good() {
            int good = 0;
            for (Approval approval : approvals) {
                good += approval.isVoided ? 0 : 1;
            }
            return good;
        }

        boolean hasGoodOf(int person) {
            for (Approval approval : approvals) {
                if (approval.person == person && !approval.isVoided) {
                    return true;
                }
            }
            return false;
        }
    }

    private static final class Machine {
        int group;
        int busyUntil;
        /** By "place/key". */
        final Map<String, Integer> taken = new HashMap<>();
    }

    private int day;
    private int pace = 12;
    private final int[] duty = {255, 255, 255, 255};
    private final Set<Integer> gone = new HashSet<>();
    private final Set<Integer> suspects = new HashSet<>();
    private final List<Integer> parents = new ArrayList<>(List.of(-1));
    private final List<Machine> machines = new ArrayList<>();
    private final List<Change> changes = new ArrayList<>();
    private final Set<String> exclusions = new HashSet<>();
    private int ranks;

    private static void index(boolean isGood) {
        if (!isGood) {
            throw new IndexOutOfBoundsException();
        }
    }

    private static void argument(boolean isGood) {
        if (!isGood) {
            throw new IllegalArgumentException();
        }
    }

    private static void stateIs(boolean isGood) {
        if (!isGood) {
            throw new IllegalStateException();
        }
    }

    private static boolean isPerson(int person) {
        return person >= 0 && person <= 7;
    }

    private static boolean isKey(int key) {
        return key >= 0 && key <= 5;
    }

    private boolean isGroup(int group) {
        return group >= 0 && group < parents.size();
    }

    private boolean isMachine(int machine) {
        return machine >= 0 && machine < machines.size();
    }

    private boolean isPlace(int place) {
        return isGroup(place) || place >= 100 && isMachine(place - 100);
    }

    private boolean isChange(int change) {
        return change >= 0 && change < changes.size();
    }

    public int setDuty(int remainder, int persons) {
        argument(remainder >= 0 && remainder <= 3 && persons >= 0 && persons <= 255);
        int before = duty[remainder];
        duty[remainder] = persons;
        return before;
    }

    public int leave(int person, boolean isSuspect) {
        index(isPerson(person));
        stateIs(!gone.contains(person));
        gone.add(person);
        int lost = 0;
        if (isSuspect) {
            suspects.add(person);
            for (Change change : changes) {
                boolean wasHeld = change.state == 1;
                for (Approval approval : change.approvals) {
                    if (approval.person == person && day - approval.day < 30) {
                        approval.isVoided = true;
                    }
                }
                if (wasHeld && change.good() < 2) {
                    change.state = 2;
                }
                if (change.author == person && day - change.day < 30) {
                    change.state = 3;
                }
                lost += wasHeld && change.state != 1 ? 1 : 0;
            }
            for (int m = 0; m < machines.size(); m++) {
                if (isStopped(m)) {
                    machines.get(m).busyUntil = 0;
                }
            }
        }
        return lost;
    }

    public void comeBack(int person) {
        index(isPerson(person));
        stateIs(gone.contains(person) && !suspects.contains(person));
        gone.remove(person);
    }

    public int pass(int days) {
        argument(days >= 1 && days <= 60);
        int steps = 0;
        for (int d = 0; d < days; d++) {
            day++;
            int takers = 0;
            for (int m = 0; m < machines.size(); m++) {
                if (isStopped(m)) {
                    goBack(m);
                    steps++;
                } else if (!isBusy(m) && takers < pace && behind(m) > 0) {
                    takeFarthest(m);
                    takers++;
                    steps++;
                }
            }
        }
        return steps;
    }

    private List<Integer> layers(int machine) {
        List<Integer> layers = new ArrayList<>(List.of(100 + machine));
        for (int group = machines.get(machine).group; group != -1; group = parents.get(group)) {
            layers.add(group);
        }
        return layers;
    }

    private int takenAt(int machine, int place, int key) {
        return machines.get(machine).taken.getOrDefault(place + "/" + key, -1);
    }

    private void take(int machine, int place, int key, int change) {
        machines.get(machine).taken.put(place + "/" + key, change);
    }

    private boolean isBad(int change) {
        return change != -1 && changes.get(change).state != 1;
    }

    private int head(int place, int key) {
        int head = -1;
        for (int c = 0; c < changes.size(); c++) {
            Change change = changes.get(c);
            if (change.state == 1 && change.place == place && change.key == key
                    && (head == -1 || change.rank > changes.get(head).rank)) {
                head = c;
            }
        }
        return head;
    }

    private void goBack(int machine) {
        for (int place : layers(machine)) {
            boolean isDone = false;
            for (int key = 0; key < 6; key++) {
                if (isBad(takenAt(machine, place, key))) {
                    take(machine, place, key, head(place, key));
                    isDone = true;
                }
            }
            if (isDone) {
                return;
            }
        }
    }

    private boolean differs(int machine, int place) {
        for (int key = 0; key < 6; key++) {
            if (takenAt(machine, place, key) != head(place, key)) {
                return true;
            }
        }
        return false;
    }

    private void takeFarthest(int machine) {
        int farthest = -1;
        for (int place : layers(machine)) {
            farthest = differs(machine, place) ? place : farthest;
        }
        for (int key = 0; key < 6; key++) {
            take(machine, farthest, key, head(farthest, key));
        }
    }

    public int day() {
        return day;
    }

    public int addGroup(int parent) {
        index(isGroup(parent));
        stateIs(parents.size() < 10);
        parents.add(parent);
        return parents.size() - 1;
    }

    public int addMachine(int group) {
        index(isGroup(group));
        stateIs(machines.size() < 12);
        Machine machine = new Machine();
        machine.group = group;
        machines.add(machine);
        return machines.size() - 1;
    }

    public int moveMachine(int machine, int group) {
        index(isMachine(machine) && isGroup(group));
        stateIs(!isBusy(machine));
        int before = machines.get(machine).group;
        machines.get(machine).group = group;
        List<Integer> layers = layers(machine);
        machines.get(machine).taken.keySet().removeIf(
                cell -> !layers.contains(Integer.parseInt(cell.substring(0, cell.indexOf('/')))));
        return before;
    }

    public int work(int machine, int days) {
        index(isMachine(machine));
        argument(days >= 1 && days <= 30);
        stateIs(!isBusy(machine) && !isStopped(machine));
        machines.get(machine).busyUntil = day + days;
        return day + days;
    }

    public int setPace(int number) {
        argument(number >= 0 && number <= 12);
        int before = pace;
        pace = number;
        return before;
    }

    public boolean isBusy(int machine) {
        index(isMachine(machine));
        return day < machines.get(machine).busyUntil;
    }

    public boolean isStopped(int machine) {
        index(isMachine(machine));
        for (int change : machines.get(machine).taken.values()) {
            if (isBad(change)) {
                return true;
            }
        }
        return false;
    }

    public int propose(int person, int place, int key, int what) {
        index(isPerson(person) && isPlace(place) && isKey(key));
        argument(what >= 0 && what <= 101);
        stateIs(!gone.contains(person) && changes.size() < 40);
        Change change = new Change();
        change.author = person;
        change.place = place;
        change.key = key;
        change.what = what;
        change.day = day;
        changes.add(change);
        return changes.size() - 1;
    }

    public int approve(int person, int number) {
        index(isPerson(person) && isChange(number));
        Change change = changes.get(number);
        stateIs(!gone.contains(person));
        stateIs((duty[day / 7 % 4] & 1 << person) != 0);
        stateIs(change.author != person && !change.hasGoodOf(person) && change.state != 3);
        Approval approval = new Approval();
        approval.person = person;
        approval.day = day;
        change.approvals.add(approval);
        if (change.good() >= 2) {
            change.state = 1;
            if (change.rank == -1) {
                change.rank = ranks;
                ranks++;
            }
        }
        return change.state;
    }

    public void withdraw(int change) {
        index(isChange(change));
        stateIs(changes.get(change).state == 0);
        changes.get(change).state = 3;
    }

    public boolean exclude(int key, int other, boolean is) {
        index(isKey(key) && isKey(other));
        argument(key != other);
        String pair = Math.min(key, other) + "-" + Math.max(key, other);
        return is ? !exclusions.add(pair) : exclusions.remove(pair);
    }

    public int changes() {
        return changes.size();
    }

    public int state(int change) {
        index(isChange(change));
        return changes.get(change).state;
    }

    public int rank(int change) {
        index(isChange(change));
        return changes.get(change).rank;
    }

    public int approvals(int change) {
        index(isChange(change));
        return changes.get(change).good();
    }

    public int told(int place, int key) {
        index(isPlace(place) && isKey(key));
        int head = head(place, key);
        return head == -1 || changes.get(head).what == 101 ? -1 : changes.get(head).what;
    }

    public int taken(int machine, int layer, int key) {
        index(isMachine(machine));
        List<Integer> layers = layers(machine);
        index(layer >= 0 && layer < layers.size() && isKey(key));
        return takenAt(machine, layers.get(layer), key);
    }

    /** The place in the list of layers, and the change, that give a key its value; null if it has none. */
    private int[] source(int machine, int key, boolean isDue) {
        List<Integer> layers = layers(machine);
        for (int layer = 0; layer < layers.size(); layer++) {
            int place = layers.get(layer);
            int change = isDue ? head(place, key) : takenAt(machine, place, key);
            int what = change == -1 ? 101 : changes.get(change).what;
            if (what == 100) {
                return null;
            }
            if (what < 100) {
                return new int[] {layer, change};
            }
        }
        return null;
    }

    private boolean isHidden(int machine, int key, boolean isDue) {
        int[] own = source(machine, key, isDue);
        for (int other = 0; own != null && other < 6; other++) {
            boolean isExcluded = exclusions.contains(Math.min(key, other) + "-" + Math.max(key, other));
            int[] its = isExcluded ? source(machine, other, isDue) : null;
            if (its == null) {
                continue;
            }
            boolean hasLowerRank = changes.get(own[1]).rank < changes.get(its[1]).rank;
            if (own[0] > its[0] || own[0] == its[0] && hasLowerRank) {
                return true;
            }
        }
        return false;
    }

    private int value(int machine, int key, boolean isDue) {
        int[] source = source(machine, key, isDue);
        return source == null || isHidden(machine, key, isDue) ? -1 : changes.get(source[1]).what;
    }

    public int runs(int machine, int key) {
        index(isMachine(machine) && isKey(key));
        return isStopped(machine) ? -1 : value(machine, key, false);
    }

    public int layerOf(int machine, int key) {
        return runs(machine, key) == -1 ? -1 : source(machine, key, false)[0];
    }

    public int due(int machine, int key) {
        index(isMachine(machine) && isKey(key));
        return value(machine, key, true);
    }

    public int dueAnew(int machine, int key) {
        return due(machine, key);
    }

    public int behind(int machine) {
        index(isMachine(machine));
        int behind = 0;
        for (int place : layers(machine)) {
            behind += differs(machine, place) ? 1 : 0;
        }
        return behind;
    }

    public int hidden(int machine) {
        index(isMachine(machine));
        int set = 0;
        for (int key = 0; key < 6; key++) {
            set += isHidden(machine, key, true) ? 1 << key : 0;
        }
        return set;
    }

    public int spread(int change) {
        index(isChange(change));
        int spread = 0;
        for (Machine machine : machines) {
            spread += machine.taken.containsValue(change) ? 1 : 0;
        }
        return spread;
    }
}
