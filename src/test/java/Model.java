import java.util.ArrayDeque;
import java.util.ArrayList;
import java.util.HashSet;
import java.util.List;
import java.util.Set;
import java.util.TreeMap;

/**
 * The document a second time, held in another way: copies with locks of their own, records in one
 * list, and each phase as a row of acts that is laid out when the phase is entered. Its methods
 * bear the names of the class's, so that both can be asked alike.
 */
final class Model {
    private static final int UNKNOWN = -1, OUTSIDE = -2, STATE = -3, FULL = -4, LOST = -5, WAITS = -6, NONE = -9;

    private record Cell(int value, int version) { }

    private static final class Copy {
        final int machine;
        final Cell[] cells = new Cell[8];
        final int[] locks = new int[8];

        Copy(int machine) {
            this.machine = machine;
            for (int i = 0; i < 8; i++) {
                cells[i] = new Cell(0, 0);
                locks[i] = NONE;
            }
        }

        void atLeast(int object, Cell cell) {
            if (cells[object].version() < cell.version()) {
                cells[object] = cell;
            }
        }
    }

    private static final class Item {
        int region;
        int object;
        Cell kept;
        Integer written;

        Cell next() {
            return new Cell(written, kept.version() + 1);
        }
    }

    private static final class Record {
        Tx owner;
        Item item;
        Copy copy;
    }

    private static final class Act {
        Item item;
        Copy copy;
        Record record;
    }

    private static final class Tx {
        int number;
        int coordinator;
        int phase;
        int place;
        boolean decided;
        final List<Item> items = new ArrayList<>();
        final ArrayDeque<Act> acts = new ArrayDeque<>();
        final List<Item> locked = new ArrayList<>();
        final List<Act> done = new ArrayList<>();

        List<Item> chosen(boolean written) {
            List<Item> found = new ArrayList<>();
            for (Item item : items) {
                if ((item.written != null) == written) {
                    found.add(item);
                }
            }
            return found;
        }

        boolean underWay() {
            return phase >= 1 && phase <= 6;
        }
    }

    private Set<Integer> up = new HashSet<>(List.of(0, 1, 2, 3, 4, 5));
    private Set<Integer> members = new HashSet<>(up);
    private int configuration = 0;
    private int places = 0;
    private final List<List<Copy>> regions = new ArrayList<>();
    private final List<Tx> txs = new ArrayList<>();
    private final List<Record> records = new ArrayList<>();

    // ---- machines, regions

    int region(int a, int b, int c) {
        List<Integer> told = new ArrayList<>(List.of(a));
        if (b != NONE || c != NONE) {
            told.add(b);
        }
        if (c != NONE) {
            told.add(c);
        }
        for (int m : told) {
            if (m < 0 || m > 5) {
                return UNKNOWN;
            }
        }
        if (new HashSet<>(told).size() != told.size() || !members.containsAll(told)) {
            return STATE;
        }
        if (regions.size() == 6) {
            return FULL;
        }
        List<Copy> copies = new ArrayList<>();
        for (int m : told) {
            copies.add(new Copy(m));
        }
        regions.add(copies);
        return regions.size() - 1;
    }

    int fail(int machine) {
        if (machine < 0 || machine > 5) {
            return UNKNOWN;
        }
        return up.remove(machine) ? up.size() : STATE;
    }

    int configure() {
        if (up.containsAll(members) || up.isEmpty()) {
            return STATE;
        }
        List<Copy> primariesBefore = new ArrayList<>();
        for (int r = 0; r < regions.size(); r++) {
            primariesBefore.add(primary(r));
        }
        Set<Integer> left = new HashSet<>(members);
        left.removeAll(up);
        members = new HashSet<>(up);
        configuration++;
        int recovered = 0;
        for (Tx t : txs) {
            boolean orphan = !members.contains(t.coordinator);
            if (t.phase == 0 && orphan) {
                t.phase = 8;
            } else if (t.underWay() && (orphan || touches(t, left))) {
                recover(t, primariesBefore);
                recovered++;
            }
        }
        return recovered;
    }

    private boolean touches(Tx t, Set<Integer> left) {
        for (Item item : t.chosen(true)) {
            for (Copy copy : regions.get(item.region)) {
                if (left.contains(copy.machine)) {
                    return true;
                }
            }
        }
        return false;
    }

    private void recover(Tx t, List<Copy> primariesBefore) {
        TreeMap<Integer, Integer> votes = new TreeMap<>();
        for (Item item : t.chosen(true)) {
            if (primary(item.region) != null) {
                votes.put(item.region, vote(t, item.region, primariesBefore.get(item.region)));
            }
        }
        boolean commits = votes.containsValue(3) || (votes.containsValue(2) && !votes.containsValue(0));
        if (commits) {
            for (Item item : t.chosen(true)) {
                for (Copy copy : present(item.region)) {
                    copy.atLeast(item.object, item.next());
                }
            }
            t.decided = true;
        }
        t.phase = commits ? 7 : 8;
        records.removeIf(record -> record.owner == t);
        for (List<Copy> copies : regions) {
            for (Copy copy : copies) {
                for (int i = 0; i < 8; i++) {
                    copy.locks[i] = copy.locks[i] == t.number ? NONE : copy.locks[i];
                }
            }
        }
    }

    private int vote(Tx t, int region, Copy primaryBefore) {
        for (Act act : t.done) {
            if (act.item.region == region && members.contains(act.copy.machine)) {
                return 3;
            }
        }
        for (Record record : records) {
            if (record.owner == t && record.item.region == region && members.contains(record.copy.machine)) {
                return 2;
            }
        }
        if (primaryBefore != primary(region)) {
            return 0;
        }
        for (Item item : t.chosen(true)) {
            if (item.region == region && primaryBefore.locks[item.object] != t.number) {
                return 0;
            }
        }
        return 1;
    }

    int copy(int region, int machine) {
        if (noRegion(region) || machine < 0 || machine > 5) {
            return UNKNOWN;
        }
        Copy primary = primary(region);
        if (primary == null) {
            return LOST;
        }
        for (Copy copy : regions.get(region)) {
            if (copy.machine == machine) {
                return STATE;
            }
        }
        for (Tx t : txs) {
            for (Item item : t.chosen(true)) {
                if (t.underWay() && item.region == region) {
                    return STATE;
                }
            }
        }
        if (!members.contains(machine) || !up.contains(machine) || !up.contains(primary.machine)
            || present(region).size() == 3) {
            return STATE;
        }
        Copy made = new Copy(machine);
        System.arraycopy(primary.cells, 0, made.cells, 0, 8);
        regions.get(region).add(made);
        return present(region).size();
    }

    int machine(int machine, int what) {
        if (machine < 0 || machine > 5) {
            return UNKNOWN;
        }
        int copies = 0;
        for (List<Copy> region : regions) {
            for (Copy copy : region) {
                copies += copy.machine == machine ? 1 : 0;
            }
        }
        int kept = 0;
        for (Record record : records) {
            kept += record.copy.machine == machine ? 1 : 0;
        }
        int[] answers = {up.contains(machine) ? 1 : 0, members.contains(machine) ? 1 : 0, copies, kept};
        return what < 0 || what > 3 ? OUTSIDE : answers[what];
    }

    int copyAt(int region, int i) {
        if (noRegion(region)) {
            return UNKNOWN;
        }
        List<Copy> copies = present(region);
        return i < 0 || i >= copies.size() ? NONE : copies.get(i).machine;
    }

    int object(int region, int i, int object, int what) {
        if (noRegion(region) || object < 0 || object > 7 || i < 0 || i >= present(region).size()) {
            return UNKNOWN;
        }
        Copy copy = present(region).get(i);
        int kept = 0;
        for (Record record : records) {
            kept += record.copy == copy && record.item.object == object ? 1 : 0;
        }
        int[] answers = {copy.cells[object].value(), copy.cells[object].version(), copy.locks[object], kept};
        return what < 0 || what > 3 ? OUTSIDE : answers[what];
    }

    // ---- transactions

    int begin(int machine) {
        if (machine < 0 || machine > 5) {
            return UNKNOWN;
        }
        if (!up.contains(machine) || !members.contains(machine)) {
            return STATE;
        }
        if (txs.size() == 60) {
            return FULL;
        }
        Tx t = new Tx();
        t.number = txs.size();
        t.coordinator = machine;
        txs.add(t);
        return t.number;
    }

    int read(int transaction, int region, int object) {
        if (noTx(transaction) || noRegion(region) || object < 0 || object > 7) {
            return UNKNOWN;
        }
        Tx t = txs.get(transaction);
        int refusal = access(t, region, object);
        if (refusal != 0) {
            return refusal;
        }
        Item item = known(t, region, object);
        return item.written != null ? item.written : item.kept.value();
    }

    int write(int transaction, int region, int object, int value) {
        if (noTx(transaction) || noRegion(region) || object < 0 || object > 7) {
            return UNKNOWN;
        }
        if (value < -1000000 || value > 1000000 || (value > -10 && value < 0)) {
            return OUTSIDE;
        }
        Tx t = txs.get(transaction);
        int refusal = access(t, region, object);
        if (refusal != 0) {
            return refusal;
        }
        known(t, region, object).written = value;
        return t.chosen(true).size();
    }

    private int access(Tx t, int region, int object) {
        if (t.phase != 0) {
            return STATE;
        }
        Copy primary = primary(region);
        if (primary == null) {
            return LOST;
        }
        if (!up.contains(t.coordinator) || !up.contains(primary.machine)) {
            return WAITS;
        }
        if (known(t, region, object) == null) {
            if (primary.locks[object] != NONE) {
                return WAITS;
            }
            if (t.items.size() == 8) {
                return FULL;
            }
            Item item = new Item();
            item.region = region;
            item.object = object;
            item.kept = primary.cells[object];
            t.items.add(item);
        }
        return 0;
    }

    int commit(int transaction) {
        int refusal = ending(transaction);
        if (refusal != 0) {
            return refusal;
        }
        Tx t = txs.get(transaction);
        if (t.chosen(true).isEmpty()) {
            t.place = ++places;
        }
        enter(t, 1);
        return t.phase;
    }

    int drop(int transaction) {
        int refusal = ending(transaction);
        if (refusal == 0) {
            txs.get(transaction).phase = 8;
        }
        return refusal == 0 ? 8 : refusal;
    }

    private int ending(int transaction) {
        if (noTx(transaction)) {
            return UNKNOWN;
        }
        Tx t = txs.get(transaction);
        return t.phase != 0 ? STATE : up.contains(t.coordinator) ? 0 : WAITS;
    }

    private void enter(Tx t, int phase) {
        t.phase = phase;
        t.acts.clear();
        List<Item> items = phase == 6 ? t.locked : t.chosen(phase != 2);
        if (phase == 5) {
            for (Record record : records) {
                if (record.owner == t) {
                    t.acts.add(act(record.item, record.copy, record));
                }
            }
        } else if (phase == 3) {
            for (Item item : items) {
                List<Copy> copies = present(item.region);
                for (int i = 1; i < copies.size(); i++) {
                    t.acts.add(act(item, copies.get(i), null));
                }
            }
        } else if (phase < 7) {
            for (Item item : items) {
                t.acts.add(act(item, null, null));
            }
        }
        if (t.acts.isEmpty() && phase < 7) {
            enter(t, behind(t));
        }
    }

    private static Act act(Item item, Copy copy, Record record) {
        Act act = new Act();
        act.item = item;
        act.copy = copy;
        act.record = record;
        return act;
    }

    private static int behind(Tx t) {
        switch (t.phase) {
            case 2: return t.chosen(true).isEmpty() ? 7 : 3;
            case 5: return 7;
            case 6: return 8;
            default: return t.phase + 1;
        }
    }

    int step(int transaction) {
        if (noTx(transaction)) {
            return UNKNOWN;
        }
        Tx t = txs.get(transaction);
        if (!t.underWay()) {
            return STATE;
        }
        Act act = t.acts.peek();
        Copy copy = act.copy != null ? act.copy : primary(act.item.region);
        if (primary(act.item.region) == null) {
            return LOST;
        }
        if (!up.contains(t.coordinator) || !up.contains(copy.machine)) {
            return WAITS;
        }
        t.acts.poll();
        int before = t.phase;
        perform(t, act, copy);
        if (t.phase == before && t.acts.isEmpty()) {
            enter(t, behind(t));
        }
        return t.phase;
    }

    private void perform(Tx t, Act act, Copy copy) {
        int object = act.item.object;
        boolean bad = copy.locks[object] != NONE || copy.cells[object].version() != act.item.kept.version();
        if (t.phase <= 2 && bad) {
            enter(t, 6);
        } else if (t.phase == 1) {
            copy.locks[object] = t.number;
            t.locked.add(act.item);
            if (t.locked.size() == t.chosen(true).size()) {
                t.place = ++places;
            }
        } else if (t.phase == 3) {
            Record record = new Record();
            record.owner = t;
            record.item = act.item;
            record.copy = copy;
            records.add(record);
        } else if (t.phase == 4) {
            copy.cells[object] = act.item.next();
            copy.locks[object] = NONE;
            t.decided = true;
            t.done.add(act(act.item, copy, null));
        } else if (t.phase == 5) {
            copy.atLeast(object, act.item.next());
            records.remove(act.record);
            t.done.add(act);
        } else if (t.phase == 6) {
            copy.locks[object] = NONE;
        }
    }

    int run(int transaction, int n) {
        if (noTx(transaction)) {
            return UNKNOWN;
        }
        if (n < 1 || n > 100) {
            return OUTSIDE;
        }
        if (!txs.get(transaction).underWay()) {
            return STATE;
        }
        for (int done = 0; done < n; done++) {
            if (step(transaction) < 0) {
                return done;
            }
        }
        return n;
    }

    int about(int transaction, int what) {
        if (noTx(transaction)) {
            return UNKNOWN;
        }
        Tx t = txs.get(transaction);
        int[] answers = {t.phase, t.coordinator, t.items.size(), t.chosen(true).size(), t.decided ? 1 : 0, t.place};
        return what < 0 || what > 5 ? OUTSIDE : answers[what];
    }

    int item(int transaction, int i, int what) {
        if (noTx(transaction) || i < 0 || i >= txs.get(transaction).items.size()) {
            return UNKNOWN;
        }
        Item item = txs.get(transaction).items.get(i);
        int written = item.written == null ? NONE : item.written;
        int[] answers = {item.region, item.object, item.kept.value(), item.kept.version(), written};
        return what < 0 || what > 4 ? OUTSIDE : answers[what];
    }

    // ---- all of it

    int check() {
        TreeMap<Integer, Tx> committed = new TreeMap<>();
        for (Tx t : txs) {
            if (t.phase == 7) {
                committed.put(t.place, t);
            }
        }
        TreeMap<Integer, Integer> left = new TreeMap<>();
        for (Tx t : committed.values()) {
            for (Item item : t.items) {
                if (left.getOrDefault(item.region * 10 + item.object, 0) != item.kept.value()) {
                    return t.number;
                }
            }
            for (Item item : t.chosen(true)) {
                left.put(item.region * 10 + item.object, item.written);
            }
        }
        return NONE;
    }

    int unlike() {
        for (int r = 0; r < regions.size(); r++) {
            Set<List<Cell>> kinds = new HashSet<>();
            for (Copy copy : present(r)) {
                kinds.add(List.of(copy.cells));
            }
            if (kinds.size() > 1) {
                return r;
            }
        }
        return NONE;
    }

    int count(int what) {
        int committed = 0;
        int aborted = 0;
        for (Tx t : txs) {
            committed += t.phase == 7 ? 1 : 0;
            aborted += t.phase == 8 ? 1 : 0;
        }
        int lost = 0;
        int locked = 0;
        for (int r = 0; r < regions.size(); r++) {
            Copy primary = primary(r);
            lost += primary == null ? 1 : 0;
            for (int i = 0; i < 8 && primary != null; i++) {
                locked += primary.locks[i] != NONE ? 1 : 0;
            }
        }
        int kept = 0;
        for (Record record : records) {
            kept += members.contains(record.copy.machine) ? 1 : 0;
        }
        int[] answers = {regions.size(), txs.size(), configuration, members.size(), up.size(), committed, aborted,
            locked, kept, lost};
        return what < 0 || what > 9 ? OUTSIDE : answers[what];
    }

    private boolean noRegion(int region) {
        return region < 0 || region >= regions.size();
    }

    private boolean noTx(int transaction) {
        return transaction < 0 || transaction >= txs.size();
    }

    private List<Copy> present(int region) {
        List<Copy> found = new ArrayList<>();
        for (Copy copy : regions.get(region)) {
            if (members.contains(copy.machine)) {
                found.add(copy);
            }
        }
        return found;
    }

    private Copy primary(int region) {
        List<Copy> copies = present(region);
        return copies.isEmpty() ? null : copies.get(0);
    }

    private static Item known(Tx t, int region, int object) {
        for (Item item : t.items) {
            if (item.region == region && item.object == object) {
                return item;
            }
        }
        return null;
    }
}
