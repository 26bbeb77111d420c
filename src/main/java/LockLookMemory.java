import java.util.ArrayList;

/**
 * A memory of several machines whose transactions lock what they write, look again at what they
 * read, write records to all backups and then to the primaries. See DOC.md for the promises.
 */
public final class LockLookMemory {
    public static final int UNKNOWN = -1, OUTSIDE = -2, STATE = -3, FULL = -4, LOST = -5, WAITS = -6, NONE = -9;

    private static final int MACHINES = 6;
    private static final int REGIONS = 6;
    private static final int OBJECTS = 8;
    private static final int TRANSACTIONS = 60;
    private static final int ITEMS = 8;
    private static final int COPIES_ON_MEMBERS = 3;
    private static final int ACTS_AT_ONCE = 100;
    private static final int GREATEST_VALUE = 1000000;
    /** The values between this one and 0 are kept free for refusals and NONE. */
    private static final int LAST_BELOW_REFUSALS = -10;

    private static final int OPEN = 0;
    private static final int LOCKING = 1;
    private static final int LOOKING = 2;
    private static final int BACKING = 3;
    private static final int WRITING = 4;
    private static final int CLEANING = 5;
    private static final int UNLOCKING = 6;
    private static final int COMMITTED = 7;
    private static final int ABORTED = 8;
    private static final int PHASES = 9;

    private static final int FINE = 0;

    private static final int VOTE_DONE = 3;
    private static final int VOTE_RECORD = 2;
    private static final int VOTE_LOCKED = 1;
    private static final int VOTE_AGAINST = 0;

    private final ArrayList<Region> regions;
    private final ArrayList<Transaction> transactions;
    private final ArrayList<Transaction> byPlace;
    private final int[] replayed;
    private int up;
    private int members;
    private int configuration;

    /** A region has at most one copy on a machine, so the machine's number names the copy. */
    private static final class Region {
        final int number;
        final int[] order = new int[MACHINES];
        int copies = 0;
        int machines = 0;
        final int[] values = new int[MACHINES * OBJECTS];
        final int[] versions = new int[MACHINES * OBJECTS];
        /**
         * One row for all copies is enough: whenever the primary changes, all that hold locks
         * here are recovered and hold none any more.
         */
        final int[] lockedBy = new int[OBJECTS];

        Region(int number) {
            this.number = number;
            for (int i = 0; i < OBJECTS; i++) {
                lockedBy[i] = NONE;
            }
        }

        void addCopy(int onMachine) {
            if (copies < MACHINES) {
                order[copies] = onMachine;
                copies++;
                machines |= bit(onMachine);
            }
        }

        int firstWithin(int machineSet) {
            for (int slot = 0; slot < copies; slot++) {
                if ((machineSet & (1 << order[slot])) != 0) {
                    return order[slot];
                }
            }
            return NONE;
        }

        void put(int cell, int value, int version) {
            values[cell] = value;
            versions[cell] = version;
        }

        void raise(int cell, int value, int version) {
            if (versions[cell] < version) {
                put(cell, value, version);
            }
        }
    }

    /** An object that a transaction has; the sets of machines tell how far its new value came. */
    private static final class Item {
        final Region home;
        final int number;
        final int value;
        final int version;
        boolean writes = false;
        int newValue = NONE;
        int recordsAt = 0;
        int doneAt = 0;

        Item(Region home, int number, int value, int version) {
            this.home = home;
            this.number = number;
            this.value = value;
            this.version = version;
        }

        int newVersion() {
            return version + 1;
        }

        boolean isLockedBy(int transaction) {
            return home.lockedBy[number] == transaction;
        }
    }

    /**
     * The cursor goes over all slots (places in the order of copies) of all items. While the
     * transaction is under way it stands at the next act of its phase; an act that is not of one
     * copy stands at slot 0.
     */
    private static final class Transaction {
        final int number;
        final int coordinator;
        final ArrayList<Item> items = new ArrayList<>();
        int phase = OPEN;
        int cursor = 0;
        int place = 0;
        boolean decided = false;

        Transaction(int number, int coordinator) {
            this.number = number;
            this.coordinator = coordinator;
        }

        boolean isUnderWay() {
            return phase != OPEN && phase != COMMITTED && phase != ABORTED;
        }

        void enter(int nextPhase) {
            phase = nextPhase;
            cursor = 0;
        }

        int cursorEnd() {
            return items.size() * MACHINES;
        }

        int slot() {
            return cursor % MACHINES;
        }

        Item itemAt(int i) {
            return i >= 0 && i < items.size() ? items.get(i) : null;
        }

        Item itemOf(Region home, int object) {
            for (int i = 0; i < items.size(); i++) {
                Item item = items.get(i);
                if (item.home == home && item.number == object) {
                    return item;
                }
            }
            return null;
        }

        int writeCount() {
            int found = 0;
            for (int i = 0; i < items.size(); i++) {
                if (items.get(i).writes) {
                    found++;
                }
            }
            return found;
        }

        boolean writesIn(Region home) {
            for (int i = 0; i < items.size(); i++) {
                Item item = items.get(i);
                if (item.writes && item.home == home) {
                    return true;
                }
            }
            return false;
        }

        boolean writesOnAnyOf(int machineSet) {
            for (int i = 0; i < items.size(); i++) {
                Item item = items.get(i);
                if (item.writes && (item.home.machines & machineSet) != 0) {
                    return true;
                }
            }
            return false;
        }
    }

    public LockLookMemory() {
        regions = new ArrayList<>();
        transactions = new ArrayList<>();
        byPlace = new ArrayList<>();
        replayed = new int[REGIONS * OBJECTS];
        up = (1 << MACHINES) - 1;
        members = up;
        configuration = 0;
    }

    // ---- machines, regions

    public int region(int a, int b, int c) {
        if (!isMachine(a) || !isMachineOrNone(b) || !isMachineOrNone(c) || (b == NONE && c != NONE)) {
            return UNKNOWN;
        }
        if (a == b || a == c || (b == c && b != NONE)) {
            return STATE;
        }
        if (!isMember(a) || (b != NONE && !isMember(b)) || (c != NONE && !isMember(c))) {
            return STATE;
        }
        if (regions.size() >= REGIONS) {
            return FULL;
        }
        Region made = new Region(regions.size());
        made.addCopy(a);
        if (b != NONE) {
            made.addCopy(b);
        }
        if (c != NONE) {
            made.addCopy(c);
        }
        regions.add(made);
        return made.number;
    }

    public int fail(int machine) {
        if (!isMachine(machine)) {
            return UNKNOWN;
        }
        if (!isUp(machine)) {
            return STATE;
        }
        up &= ~bit(machine);
        return Integer.bitCount(up);
    }

    public int configure() {
        if (members == up || up == 0) {
            return STATE;
        }
        int membersBefore = members;
        members = up;
        configuration++;
        int recovered = 0;
        for (int n = 0; n < transactions.size(); n++) {
            Transaction t = transactions.get(n);
            if (t.phase == OPEN && !isMember(t.coordinator)) {
                t.enter(ABORTED);
            } else if (isToBeRecovered(t, membersBefore)) {
                recover(t, membersBefore);
                recovered++;
            }
        }
        return recovered;
    }

    public int copy(int region, int machine) {
        Region home = regionAt(region);
        if (home == null || !isMachine(machine)) {
            return UNKNOWN;
        }
        int primary = primaryOf(home);
        if (primary == NONE) {
            return LOST;
        }
        if (holds(home.machines, machine) || !isMember(machine) || !isUp(machine) || !isUp(primary)) {
            return STATE;
        }
        if (copiesOnMembers(home) >= COPIES_ON_MEMBERS || isWrittenUnderWay(home)) {
            return STATE;
        }
        home.addCopy(machine);
        for (int i = 0; i < OBJECTS; i++) {
            int from = cell(primary, i);
            home.put(cell(machine, i), home.values[from], home.versions[from]);
        }
        return copiesOnMembers(home);
    }

    public int machine(int machine, int what) {
        if (!isMachine(machine)) {
            return UNKNOWN;
        }
        switch (what) {
            case 0:
                return isUp(machine) ? 1 : 0;
            case 1:
                return isMember(machine) ? 1 : 0;
            case 2:
                return copiesOn(machine);
            case 3:
                return recordsWithin(bit(machine));
            default:
                return OUTSIDE;
        }
    }

    public int copyAt(int region, int i) {
        Region home = regionAt(region);
        return home == null ? UNKNOWN : machineOfCopy(home, i);
    }

    public int object(int region, int i, int object, int what) {
        Region home = regionAt(region);
        if (home == null || !isObject(object)) {
            return UNKNOWN;
        }
        int at = machineOfCopy(home, i);
        if (at == NONE) {
            return UNKNOWN;
        }
        switch (what) {
            case 0:
                return home.values[cell(at, object)];
            case 1:
                return home.versions[cell(at, object)];
            case 2:
                return at == primaryOf(home) ? home.lockedBy[object] : NONE;
            case 3:
                return recordsOf(home, object, at);
            default:
                return OUTSIDE;
        }
    }

    // ---- transactions

    public int begin(int machine) {
        if (!isMachine(machine)) {
            return UNKNOWN;
        }
        if (!isUp(machine) || !isMember(machine)) {
            return STATE;
        }
        if (transactions.size() >= TRANSACTIONS) {
            return FULL;
        }
        Transaction begun = new Transaction(transactions.size(), machine);
        transactions.add(begun);
        return begun.number;
    }

    public int read(int transaction, int region, int object) {
        Transaction t = transactionAt(transaction);
        Region home = regionAt(region);
        if (t == null || home == null || !isObject(object)) {
            return UNKNOWN;
        }
        int refusal = accessRefusal(t, home, object);
        if (refusal != FINE) {
            return refusal;
        }
        Item item = itemFor(t, home, object);
        return item.writes ? item.newValue : item.value;
    }

    public int write(int transaction, int region, int object, int value) {
        Transaction t = transactionAt(transaction);
        Region home = regionAt(region);
        if (t == null || home == null || !isObject(object)) {
            return UNKNOWN;
        }
        if (!isValue(value)) {
            return OUTSIDE;
        }
        int refusal = accessRefusal(t, home, object);
        if (refusal != FINE) {
            return refusal;
        }
        Item item = itemFor(t, home, object);
        item.writes = true;
        item.newValue = value;
        return t.writeCount();
    }

    public int commit(int transaction) {
        Transaction t = transactionAt(transaction);
        if (t == null) {
            return UNKNOWN;
        }
        int refusal = endingRefusal(t);
        if (refusal != FINE) {
            return refusal;
        }
        t.enter(LOCKING);
        passOver(t);
        return t.phase;
    }

    public int drop(int transaction) {
        Transaction t = transactionAt(transaction);
        if (t == null) {
            return UNKNOWN;
        }
        int refusal = endingRefusal(t);
        if (refusal != FINE) {
            return refusal;
        }
        t.enter(ABORTED);
        return t.phase;
    }

    public int step(int transaction) {
        Transaction t = transactionAt(transaction);
        return t == null ? UNKNOWN : tryAct(t);
    }

    public int run(int transaction, int n) {
        Transaction t = transactionAt(transaction);
        if (t == null) {
            return UNKNOWN;
        }
        if (n < 1 || n > ACTS_AT_ONCE) {
            return OUTSIDE;
        }
        if (!t.isUnderWay()) {
            return STATE;
        }
        int done = 0;
        while (done < n && tryAct(t) >= 0) {
            done++;
        }
        return done;
    }

    public int about(int transaction, int what) {
        Transaction t = transactionAt(transaction);
        if (t == null) {
            return UNKNOWN;
        }
        switch (what) {
            case 0:
                return t.phase;
            case 1:
                return t.coordinator;
            case 2:
                return t.items.size();
            case 3:
                return t.writeCount();
            case 4:
                return t.decided ? 1 : 0;
            case 5:
                return t.place;
            default:
                return OUTSIDE;
        }
    }

    public int item(int transaction, int i, int what) {
        Transaction t = transactionAt(transaction);
        if (t == null) {
            return UNKNOWN;
        }
        Item item = t.itemAt(i);
        if (item == null) {
            return UNKNOWN;
        }
        switch (what) {
            case 0:
                return item.home.number;
            case 1:
                return item.number;
            case 2:
                return item.value;
            case 3:
                return item.version;
            case 4:
                return item.writes ? item.newValue : NONE;
            default:
                return OUTSIDE;
        }
    }

    // ---- all of it

    public int check() {
        for (int i = 0; i < replayed.length; i++) {
            replayed[i] = 0;
        }
        for (int p = 0; p < byPlace.size(); p++) {
            Transaction t = byPlace.get(p);
            if (t.phase == COMMITTED) {
                if (!readWhatWasLeft(t)) {
                    return t.number;
                }
                replay(t);
            }
        }
        return NONE;
    }

    public int unlike() {
        for (int r = 0; r < regions.size(); r++) {
            if (!areCopiesAlike(regions.get(r))) {
                return r;
            }
        }
        return NONE;
    }

    public int count(int what) {
        switch (what) {
            case 0:
                return regions.size();
            case 1:
                return transactions.size();
            case 2:
                return configuration;
            case 3:
                return Integer.bitCount(members);
            case 4:
                return Integer.bitCount(up);
            case 5:
                return transactionsIn(COMMITTED);
            case 6:
                return transactionsIn(ABORTED);
            case 7:
                return lockedObjects();
            case 8:
                return recordsWithin(members);
            case 9:
                return lostRegions();
            default:
                return OUTSIDE;
        }
    }

    // ---- what numbers stand for

    private static int bit(int machine) {
        return 1 << machine;
    }

    private static boolean holds(int machineSet, int machine) {
        return (machineSet & (1 << machine)) != 0;
    }

    private static int cell(int row, int object) {
        return row * OBJECTS + object;
    }

    private static boolean isMachine(int machine) {
        return machine >= 0 && machine < MACHINES;
    }

    private static boolean isMachineOrNone(int machine) {
        return machine == NONE || isMachine(machine);
    }

    private static boolean isObject(int object) {
        return object >= 0 && object < OBJECTS;
    }

    private static boolean isValue(int value) {
        return (value >= -GREATEST_VALUE && value <= LAST_BELOW_REFUSALS)
            || (value >= 0 && value <= GREATEST_VALUE);
    }

    private boolean isUp(int machine) {
        return holds(up, machine);
    }

    private boolean isMember(int machine) {
        return holds(members, machine);
    }

    private Region regionAt(int region) {
        return region >= 0 && region < regions.size() ? regions.get(region) : null;
    }

    private Transaction transactionAt(int transaction) {
        return transaction >= 0 && transaction < transactions.size() ? transactions.get(transaction) : null;
    }

    // ---- copies

    private int primaryOf(Region home) {
        return home.firstWithin(members);
    }

    private boolean isLost(Region home) {
        return (home.machines & members) == 0;
    }

    private int copiesOnMembers(Region home) {
        return Integer.bitCount(home.machines & members);
    }

    private boolean isBackup(Region home, int slot) {
        return slot >= 0 && slot < home.copies && holds(members, home.order[slot])
            && home.order[slot] != home.firstWithin(members);
    }

    private int machineOfCopy(Region home, int i) {
        int passed = 0;
        for (int slot = 0; slot < home.copies; slot++) {
            if (isMember(home.order[slot])) {
                if (passed == i) {
                    return home.order[slot];
                }
                passed++;
            }
        }
        return NONE;
    }

    private int copiesOn(int onMachine) {
        int found = 0;
        for (int r = 0; r < regions.size(); r++) {
            if (holds(regions.get(r).machines, onMachine)) {
                found++;
            }
        }
        return found;
    }

    private boolean areCopiesAlike(Region home) {
        int primary = primaryOf(home);
        if (primary == NONE) {
            return true;
        }
        for (int slot = 0; slot < home.copies; slot++) {
            if (isMember(home.order[slot]) && !areAlike(home, primary, home.order[slot])) {
                return false;
            }
        }
        return true;
    }

    private static boolean areAlike(Region home, int one, int other) {
        for (int i = 0; i < OBJECTS; i++) {
            int here = cell(one, i);
            int there = cell(other, i);
            if (home.values[here] != home.values[there] || home.versions[here] != home.versions[there]) {
                return false;
            }
        }
        return true;
    }

    private boolean isWrittenUnderWay(Region home) {
        for (int n = 0; n < transactions.size(); n++) {
            Transaction t = transactions.get(n);
            if (t.isUnderWay() && t.writesIn(home)) {
                return true;
            }
        }
        return false;
    }

    // ---- records, as the items of transactions hold them

    private int recordsOf(Region home, int object, int atMachine) {
        int found = 0;
        for (int n = 0; n < transactions.size(); n++) {
            Item item = transactions.get(n).itemOf(home, object);
            if (item != null && holds(item.recordsAt, atMachine)) {
                found++;
            }
        }
        return found;
    }

    private int recordsWithin(int machineSet) {
        int found = 0;
        for (int n = 0; n < transactions.size(); n++) {
            Transaction t = transactions.get(n);
            for (int i = 0; i < t.items.size(); i++) {
                found += Integer.bitCount(t.items.get(i).recordsAt & machineSet);
            }
        }
        return found;
    }

    // ---- an open transaction

    private int accessRefusal(Transaction t, Region home, int object) {
        if (t.phase != OPEN) {
            return STATE;
        }
        int primary = primaryOf(home);
        if (primary == NONE) {
            return LOST;
        }
        if (!isUp(t.coordinator) || !isUp(primary)) {
            return WAITS;
        }
        if (t.itemOf(home, object) != null) {
            return FINE;
        }
        if (home.lockedBy[object] != NONE) {
            return WAITS;
        }
        return t.items.size() >= ITEMS ? FULL : FINE;
    }

    /** Asked only behind accessRefusal(), so the region has a primary. */
    private Item itemFor(Transaction t, Region home, int object) {
        Item known = t.itemOf(home, object);
        if (known != null) {
            return known;
        }
        int at = cell(primaryOf(home), object);
        Item told = new Item(home, object, home.values[at], home.versions[at]);
        t.items.add(told);
        return told;
    }

    private int endingRefusal(Transaction t) {
        if (t.phase != OPEN) {
            return STATE;
        }
        return isUp(t.coordinator) ? FINE : WAITS;
    }

    // ---- acts

    private int tryAct(Transaction t) {
        Item item = t.itemAt(t.cursor / MACHINES);
        if (!t.isUnderWay() || item == null) {
            return STATE;
        }
        int at = machineOfAct(t, item);
        if (at == NONE) {
            return LOST;
        }
        if (!isUp(t.coordinator) || !isUp(at)) {
            return WAITS;
        }
        // ahead of the act, because an act that gives up sets the cursor back
        t.cursor++;
        act(t, item, at);
        passOver(t);
        return t.phase;
    }

    private int machineOfAct(Transaction t, Item item) {
        if (isLost(item.home)) {
            return NONE;
        }
        boolean isOfOneCopy = t.phase == BACKING || t.phase == CLEANING;
        return isOfOneCopy ? item.home.order[t.slot()] : primaryOf(item.home);
    }

    private void act(Transaction t, Item item, int at) {
        int here = cell(at, item.number);
        switch (t.phase) {
            case LOCKING:
                if (isTakenOrChanged(item, here)) {
                    t.enter(UNLOCKING);
                } else {
                    item.home.lockedBy[item.number] = t.number;
                }
                break;
            case LOOKING:
                if (isTakenOrChanged(item, here)) {
                    t.enter(UNLOCKING);
                }
                break;
            case BACKING:
                item.recordsAt |= bit(at);
                break;
            case WRITING:
                item.home.put(here, item.newValue, item.newVersion());
                item.home.lockedBy[item.number] = NONE;
                item.doneAt |= bit(at);
                t.decided = true;
                break;
            case CLEANING:
                item.home.raise(here, item.newValue, item.newVersion());
                item.recordsAt &= ~bit(at);
                item.doneAt |= bit(at);
                break;
            case UNLOCKING:
                item.home.lockedBy[item.number] = NONE;
                break;
            default:
                break;
        }
    }

    private static boolean isTakenOrChanged(Item item, int primaryCell) {
        return item.home.lockedBy[item.number] != NONE || item.home.versions[primaryCell] != item.version;
    }

    /** Each turn enters another phase, and no phase comes twice. */
    private void passOver(Transaction t) {
        for (int turn = 0; turn < PHASES && t.isUnderWay() && !findNextAct(t); turn++) {
            if (t.phase == LOCKING) {
                tellPlace(t);
            }
            t.enter(phaseBehind(t));
        }
    }

    private void tellPlace(Transaction t) {
        byPlace.add(t);
        t.place = byPlace.size();
    }

    private static int phaseBehind(Transaction t) {
        switch (t.phase) {
            case LOCKING:
                return LOOKING;
            case LOOKING:
                return t.writeCount() == 0 ? COMMITTED : BACKING;
            case BACKING:
                return WRITING;
            case WRITING:
                return CLEANING;
            case CLEANING:
                return COMMITTED;
            default:
                return ABORTED;
        }
    }

    private boolean findNextAct(Transaction t) {
        int end = t.cursorEnd();
        while (t.cursor < end) {
            Item item = t.itemAt(t.cursor / MACHINES);
            if (item != null && hasAct(t, item, t.slot())) {
                return true;
            }
            t.cursor++;
        }
        return false;
    }

    private boolean hasAct(Transaction t, Item item, int slot) {
        switch (t.phase) {
            case LOCKING:
            case WRITING:
                return slot == 0 && item.writes;
            case LOOKING:
                return slot == 0 && !item.writes;
            case UNLOCKING:
                return slot == 0 && item.isLockedBy(t.number);
            case BACKING:
                return item.writes && isBackup(item.home, slot);
            case CLEANING:
                return slot < item.home.copies && holds(item.recordsAt, item.home.order[slot]);
            default:
                return false;
        }
    }

    // ---- a new configuration

    private boolean isToBeRecovered(Transaction t, int membersBefore) {
        int left = membersBefore & ~members;
        return t.isUnderWay() && (!isMember(t.coordinator) || t.writesOnAnyOf(left));
    }

    private void recover(Transaction t, int membersBefore) {
        if (isVotedFor(t, membersBefore)) {
            spread(t);
            t.decided = true;
            t.enter(COMMITTED);
        } else {
            t.enter(ABORTED);
        }
        letGo(t);
    }

    private boolean isVotedFor(Transaction t, int membersBefore) {
        int highest = VOTE_AGAINST;
        int lowest = VOTE_DONE;
        for (int r = 0; r < regions.size(); r++) {
            Region home = regions.get(r);
            if (!isLost(home) && t.writesIn(home)) {
                int vote = voteOf(home, t, membersBefore);
                highest = Math.max(highest, vote);
                lowest = Math.min(lowest, vote);
            }
        }
        return highest == VOTE_DONE || (highest == VOTE_RECORD && lowest != VOTE_AGAINST);
    }

    private int voteOf(Region home, Transaction t, int membersBefore) {
        boolean hasRecord = false;
        boolean isLocked = home.firstWithin(membersBefore) == primaryOf(home);
        for (int i = 0; i < t.items.size(); i++) {
            Item item = t.items.get(i);
            if (item.home == home && item.writes) {
                if ((item.doneAt & members) != 0) {
                    return VOTE_DONE;
                }
                hasRecord = hasRecord || (item.recordsAt & members) != 0;
                isLocked = isLocked && item.isLockedBy(t.number);
            }
        }
        if (hasRecord) {
            return VOTE_RECORD;
        }
        return isLocked ? VOTE_LOCKED : VOTE_AGAINST;
    }

    private void spread(Transaction t) {
        for (int i = 0; i < t.items.size(); i++) {
            Item item = t.items.get(i);
            for (int slot = 0; item.writes && slot < item.home.copies; slot++) {
                int at = item.home.order[slot];
                if (isMember(at)) {
                    item.home.raise(cell(at, item.number), item.newValue, item.newVersion());
                }
            }
        }
    }

    private static void letGo(Transaction t) {
        for (int i = 0; i < t.items.size(); i++) {
            Item item = t.items.get(i);
            item.recordsAt = 0;
            if (item.isLockedBy(t.number)) {
                item.home.lockedBy[item.number] = NONE;
            }
        }
    }

    // ---- all of it, in parts

    private boolean readWhatWasLeft(Transaction t) {
        for (int i = 0; i < t.items.size(); i++) {
            Item item = t.items.get(i);
            if (replayed[cell(item.home.number, item.number)] != item.value) {
                return false;
            }
        }
        return true;
    }

    private void replay(Transaction t) {
        for (int i = 0; i < t.items.size(); i++) {
            Item item = t.items.get(i);
            if (item.writes) {
                replayed[cell(item.home.number, item.number)] = item.newValue;
            }
        }
    }

    private int transactionsIn(int phase) {
        int found = 0;
        for (int n = 0; n < transactions.size(); n++) {
            if (transactions.get(n).phase == phase) {
                found++;
            }
        }
        return found;
    }

    private int lockedObjects() {
        int found = 0;
        for (int r = 0; r < regions.size(); r++) {
            Region home = regions.get(r);
            for (int i = 0; i < OBJECTS; i++) {
                if (!isLost(home) && home.lockedBy[i] != NONE) {
                    found++;
                }
            }
        }
        return found;
    }

    private int lostRegions() {
        int found = 0;
        for (int r = 0; r < regions.size(); r++) {
            if (isLost(regions.get(r))) {
                found++;
            }
        }
        return found;
    }
}
