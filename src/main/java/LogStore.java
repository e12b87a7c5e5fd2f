/**
 * A store of keys with values for up to four transactions at a time: locks, a
 * log that is written ahead, a small pool of pages over a disk, checkpoints,
 * crashes, and a restart that may itself be cut off by a crash.
 *
 * The calls stand in LogStore; beneath it, Log and Pool know nothing of
 * transactions' states, LiveTable knows nothing of pages, and Recovery works
 * on Log and Pool alone.
 */
public final class LogStore {
    private static final int KEYS = 100;
    private static final int PAGES = 6;
    private static final int SLOTS = 4;
    private static final int PLACES = PAGES * SLOTS;
    private static final int POOL_PAGES = 3;
    private static final int SEATS = 4;
    private static final int MAX_TRANSACTIONS = 60;
    private static final int MAX_UPDATES = 60;
    private static final int MAX_CHECKPOINTS = 20;
    private static final int MAX_CRASHES = 8;
    private static final int MAX_UNITS = 100;
    /** An UPDATE has at most one CLR in the log, a transaction one COMMIT. */
    private static final int MAX_RECORDS =
            2 * MAX_UPDATES + MAX_TRANSACTIONS + MAX_CHECKPOINTS;

    private static final int REFUSED = -1;
    private static final int NOT_THERE = -1;
    /** The key of a free place. */
    private static final int NO_KEY = -1;
    /** LSNs begin with 1, so 0 can say that there is none. */
    private static final int NO_LSN = 0;

    private static final int UPDATE = 1;
    private static final int CLR = 2;
    private static final int COMMIT = 3;
    private static final int CHECKPOINT = 4;

    private static final int ACTIVE = 1;
    private static final int WAITING = 2;
    private static final int COMMITTING = 3;
    private static final int COMMITTED = 4;
    private static final int ABORTED = 5;
    private static final int IN_DOUBT = 6;

    private static final int NO_LOCK = 0;
    private static final int SHARED = 1;
    private static final int EXCLUSIVE = 2;

    private static final int DONE = 0;
    private static final int WAITS = 1;
    private static final int VICTIM = 2;
    private static final int NO_ROOM = 3;

    private final Log log;
    private final Pool pool;
    private final LiveTable live;
    private final Recovery recovery;
    /** By number; row 0 stays empty. */
    private final Transaction[] transactions;
    private int begun;
    private int requests;
    private int crashes;
    private boolean isUp;

    public LogStore() {
        log = new Log();
        pool = new Pool(log);
        live = new LiveTable();
        recovery = new Recovery(log, pool);
        transactions = new Transaction[MAX_TRANSACTIONS + 1];
        isUp = true;
    }

    public int begin() {
        int seat = live.freeSeat();
        if (!isUp || seat == NOT_THERE || begun >= MAX_TRANSACTIONS) {
            return REFUSED;
        }
        begun++;
        transactions[begun] = new Transaction(begun, seat);
        live.enter(transactions[begun]);
        settle();
        return begun;
    }

    public int read(int t, int key) {
        int answer = request(t, key, SHARED, 0);
        settle();
        return answer;
    }

    public int write(int t, int key, int value) {
        int answer = request(t, key, EXCLUSIVE, value);
        settle();
        return answer;
    }

    public boolean commit(int t) {
        Transaction one = find(t);
        if (one == null || one.state != ACTIVE) {
            return false;
        }
        log.addCommit(t);
        one.state = COMMITTING;
        settle();
        return true;
    }

    public boolean abort(int t) {
        Transaction one = find(t);
        if (one == null || one.state != ACTIVE && one.state != WAITING) {
            return false;
        }
        rollBack(one);
        settle();
        return true;
    }

    public boolean force() {
        if (!isUp) {
            return false;
        }
        log.makeStable(log.size);
        settle();
        return true;
    }

    public int checkpoint() {
        if (!isUp || log.checkpoints >= MAX_CHECKPOINTS) {
            return REFUSED;
        }
        int lsn = log.addCheckpoint(pool.recs);
        settle();
        return lsn;
    }

    public boolean flush(int page) {
        if (!isUp || !isPage(page) || !pool.isDirty(page)) {
            return false;
        }
        pool.writeOut(page);
        settle();
        return true;
    }

    public int crash(int k) {
        if (k < 0 || crashes >= MAX_CRASHES) {
            return REFUSED;
        }
        crashes++;
        isUp = false;
        // The lesser is taken before the sum, which could wrap around.
        log.makeStable(log.stable + Math.min(k, log.size - log.stable));
        log.loseUnstable();
        pool.empty();
        live.leaveAllInDoubt();
        recovery.startAnew();
        return log.size;
    }

    public int restart(int n) {
        if (isUp || n < 1 || n > MAX_UNITS) {
            return REFUSED;
        }
        int made = 0;
        while (made < n && !isUp) {
            recovery.makeUnit();
            made++;
            if (recovery.isFinished()) {
                comeUp();
            }
        }
        return made;
    }

    public boolean up() {
        return isUp;
    }

    public int state(int t) {
        Transaction one = find(t);
        return one == null ? 0 : one.state;
    }

    public int outcome(int t) {
        Transaction one = find(t);
        return one == null ? NOT_THERE : one.outcome;
    }

    public int value(int t) {
        Transaction one = find(t);
        return one == null ? 0 : one.valueRead;
    }

    public int stored(int key) {
        int found = place(key);
        return found == NOT_THERE ? 0 : pool.valueAt(found);
    }

    public int place(int key) {
        return isKey(key) ? pool.placeOf(key) : NOT_THERE;
    }

    public int after(int key) {
        return isUp ? pool.leastKeyAbove(key) : NOT_THERE;
    }

    public int count(int what) {
        switch (what) {
            case 0:
                return log.size;
            case 1:
                return log.stable;
            case 2:
                return pool.cameIn;
            case 3:
                return pool.written;
            default:
                return NOT_THERE;
        }
    }

    public int page(int page, int what) {
        if (!isPage(page)) {
            return NOT_THERE;
        }
        switch (what) {
            case 0:
                return pool.isIn[page] ? pool.recs[page] : NOT_THERE;
            case 1:
                return pool.isIn[page] ? pool.frames[page].lsn : NOT_THERE;
            case 2:
                return pool.disk[page].lsn;
            default:
                return NOT_THERE;
        }
    }

    private static boolean isKey(int key) {
        return key >= 0 && key < KEYS;
    }

    private static boolean isPage(int page) {
        return page >= 0 && page < PAGES;
    }

    private Transaction find(int t) {
        return t >= 1 && t <= begun ? transactions[t] : null;
    }

    /** While the store is down no transaction is active, so that all are refused. */
    private int request(int t, int key, int lock, int newValue) {
        Transaction one = find(t);
        if (one == null || one.state != ACTIVE || !isKey(key)) {
            return REFUSED;
        }
        requests++;
        one.ask(requests, key, lock, newValue);
        if (live.isFit(one)) {
            grant(one);
            return one.outcome;
        }
        one.state = WAITING;
        one.outcome = WAITS;
        if (live.waitsForItself(one)) {
            one.outcome = VICTIM;
            rollBack(one);
        }
        return one.outcome;
    }

    private void grant(Transaction one) {
        live.hold(one);
        one.state = ACTIVE;
        if (one.lock == SHARED) {
            readFor(one);
        } else {
            writeFor(one);
        }
    }

    private void readFor(Transaction one) {
        int source = pool.placeOf(one.key);
        if (source == NOT_THERE) {
            one.valueRead = 0;
        } else {
            pool.fetch(source / SLOTS);
            one.valueRead = pool.valueAt(source);
        }
        one.outcome = DONE;
    }

    private void writeFor(Transaction one) {
        int target = pool.placeOf(one.key);
        if (target == NOT_THERE) {
            target = pool.placeOf(NO_KEY);
        }
        if (log.updates >= MAX_UPDATES || target == NOT_THERE) {
            one.outcome = NO_ROOM;
            return;
        }
        pool.fetch(target / SLOTS);
        pool.apply(log.addUpdate(one.number, target, pool.keyAt(target), pool.valueAt(target),
                one.key, one.newValue));
        one.outcome = DONE;
    }

    private void rollBack(Transaction one) {
        // The CLRs come behind the place where the walk begins.
        for (int lsn = log.size; lsn >= 1; lsn--) {
            if (log.owners[lsn] == one.number && log.isOpen(lsn)) {
                pool.takeBack(lsn);
            }
        }
        live.leave(one, ABORTED);
    }

    /** A live transaction takes at most one step here: what waits or commits does so no more. */
    private void settle() {
        for (int step = 0; step < SEATS; step++) {
            Transaction settled = live.leastStableCommit(log);
            if (settled != null) {
                live.leave(settled, COMMITTED);
                continue;
            }
            Transaction fit = live.firstFitWaiting();
            if (fit == null) {
                break;
            }
            grant(fit);
        }
    }

    /** There is nothing to settle then: no transaction is live. */
    private void comeUp() {
        isUp = true;
        for (int t = 1; t <= begun; t++) {
            if (transactions[t].state == IN_DOUBT) {
                transactions[t].state = log.commits[t] == NO_LSN ? ABORTED : COMMITTED;
            }
        }
    }

    /** A transaction that has begun, with its latest request. */
    private static final class Transaction {
        private final int number;
        private final int seat;
        private int state;
        private int outcome;
        private int valueRead;
        private int requestNumber;
        private int key;
        private int lock;
        private int newValue;

        private Transaction(int number, int seat) {
            this.number = number;
            this.seat = seat;
            state = ACTIVE;
            outcome = NOT_THERE;
        }

        private void ask(int newRequest, int wantedKey, int wantedLock, int valueToWrite) {
            requestNumber = newRequest;
            key = wantedKey;
            lock = wantedLock;
            newValue = valueToWrite;
        }
    }

    /** The live transactions, each on a seat, and the locks that they hold. */
    private static final class LiveTable {
        private final Transaction[] seats = new Transaction[SEATS];
        /** By seat and key; a row is all NO_LOCK when its seat is free. */
        private final int[][] held = new int[SEATS][KEYS];

        private int freeSeat() {
            for (int seat = 0; seat < SEATS; seat++) {
                if (seats[seat] == null) {
                    return seat;
                }
            }
            return NOT_THERE;
        }

        private void enter(Transaction one) {
            seats[one.seat] = one;
        }

        private void leave(Transaction one, int newState) {
            one.state = newState;
            seats[one.seat] = null;
            for (int key = 0; key < KEYS; key++) {
                held[one.seat][key] = NO_LOCK;
            }
        }

        private void leaveAllInDoubt() {
            for (int seat = 0; seat < SEATS; seat++) {
                if (seats[seat] != null) {
                    leave(seats[seat], IN_DOUBT);
                }
            }
        }

        private void hold(Transaction one) {
            held[one.seat][one.key] = Math.max(held[one.seat][one.key], one.lock);
        }

        private boolean isFit(Transaction one) {
            int has = held[one.seat][one.key];
            return has >= one.lock || obstacles(one) == 0;
        }

        /** The seats, as bits, of those whose locks or earlier requests stand against a request. */
        private int obstacles(Transaction one) {
            boolean hasNone = held[one.seat][one.key] == NO_LOCK;
            int found = 0;
            for (int seat = 0; seat < SEATS; seat++) {
                Transaction other = seats[seat];
                if (other == null || other == one) {
                    continue;
                }
                boolean isEarlier = other.state == WAITING && other.key == one.key
                        && other.requestNumber < one.requestNumber;
                if (conflicts(held[seat][one.key], one.lock) || hasNone && isEarlier) {
                    found |= 1 << seat;
                }
            }
            return found;
        }

        private static boolean conflicts(int heldLock, int wantedLock) {
            return heldLock == EXCLUSIVE || heldLock == SHARED && wantedLock == EXCLUSIVE;
        }

        private boolean waitsForItself(Transaction one) {
            int reached = obstacles(one);
            // A way that meets no seat twice has at most as many steps as there are seats.
            for (int step = 1; step < SEATS; step++) {
                reached |= stepFrom(reached);
            }
            return (reached >> one.seat & 1) == 1;
        }

        private int stepFrom(int reached) {
            int next = 0;
            for (int seat = 0; seat < SEATS; seat++) {
                boolean isReached = (reached >> seat & 1) == 1;
                if (isReached && seats[seat] != null && seats[seat].state == WAITING) {
                    next |= obstacles(seats[seat]);
                }
            }
            return next;
        }

        private Transaction leastStableCommit(Log log) {
            Transaction least = null;
            for (int seat = 0; seat < SEATS; seat++) {
                Transaction one = seats[seat];
                if (one != null && one.state == COMMITTING
                        && log.commits[one.number] <= log.stable
                        && (least == null || log.commits[one.number] < log.commits[least.number])) {
                    least = one;
                }
            }
            return least;
        }

        private Transaction firstFitWaiting() {
            Transaction first = null;
            for (int seat = 0; seat < SEATS; seat++) {
                Transaction one = seats[seat];
                if (one != null && one.state == WAITING
                        && (first == null || one.requestNumber < first.requestNumber)
                        && isFit(one)) {
                    first = one;
                }
            }
            return first;
        }
    }

    /** The records by LSN, in rows that are made once; row 0 is spare. */
    private static final class Log {
        private final int[] kinds = new int[MAX_RECORDS + 1];
        /** Of UPDATE, CLR and COMMIT: the transaction. */
        private final int[] owners = new int[MAX_RECORDS + 1];
        private final int[] places = new int[MAX_RECORDS + 1];
        private final int[] keysBefore = new int[MAX_RECORDS + 1];
        private final int[] valuesBefore = new int[MAX_RECORDS + 1];
        private final int[] keysThen = new int[MAX_RECORDS + 1];
        private final int[] valuesThen = new int[MAX_RECORDS + 1];
        /** Of an UPDATE: the CLR that takes it back; of a CLR: its UPDATE. */
        private final int[] partners = new int[MAX_RECORDS + 1];
        /** By transaction: the LSN of its COMMIT. */
        private final int[] commits = new int[MAX_TRANSACTIONS + 1];
        /** The LSNs of the CHECKPOINTs in the log, and what each names: RECs by page. */
        private final int[] checkpointLsns = new int[MAX_CHECKPOINTS];
        private final int[][] checkpointRecs = new int[MAX_CHECKPOINTS][PAGES];
        private int size;
        private int stable;
        private int updates;
        private int checkpoints;

        /** Refuses beyond the document's limits, which keep the log below MAX_RECORDS. */
        private int append(int kind, int owner) {
            if (size >= MAX_RECORDS) {
                return NO_LSN;
            }
            size++;
            kinds[size] = kind;
            owners[size] = owner;
            partners[size] = NO_LSN;
            return size;
        }

        private int addUpdate(int owner, int place, int keyBefore, int valueBefore,
                int key, int value) {
            int lsn = append(UPDATE, owner);
            places[lsn] = place;
            keysBefore[lsn] = keyBefore;
            valuesBefore[lsn] = valueBefore;
            keysThen[lsn] = key;
            valuesThen[lsn] = value;
            updates++;
            return lsn;
        }

        private int addClr(int update) {
            int lsn = append(CLR, owners[update]);
            places[lsn] = places[update];
            keysThen[lsn] = keysBefore[update];
            valuesThen[lsn] = valuesBefore[update];
            partners[lsn] = update;
            partners[update] = lsn;
            return lsn;
        }

        private void addCommit(int owner) {
            commits[owner] = append(COMMIT, owner);
        }

        private int addCheckpoint(int[] recs) {
            int lsn = append(CHECKPOINT, 0);
            System.arraycopy(recs, 0, checkpointRecs[checkpoints], 0, PAGES);
            checkpointLsns[checkpoints] = lsn;
            checkpoints++;
            return lsn;
        }

        private boolean isChange(int lsn) {
            return kinds[lsn] == UPDATE || kinds[lsn] == CLR;
        }

        private boolean isOpen(int lsn) {
            return kinds[lsn] == UPDATE && partners[lsn] == NO_LSN
                    && commits[owners[lsn]] == NO_LSN;
        }

        private int greatestOpen() {
            for (int lsn = size; lsn >= 1; lsn--) {
                if (isOpen(lsn)) {
                    return lsn;
                }
            }
            return NO_LSN;
        }

        private void makeStable(int upTo) {
            if (stable < upTo) {
                stable = upTo;
            }
        }

        private void loseUnstable() {
            for (int lsn = size; lsn > stable; lsn--) {
                forget(lsn);
            }
            size = stable;
        }

        private void forget(int lsn) {
            switch (kinds[lsn]) {
                case UPDATE:
                    updates--;
                    break;
                case CLR:
                    partners[partners[lsn]] = NO_LSN;
                    break;
                case COMMIT:
                    commits[owners[lsn]] = NO_LSN;
                    break;
                default:
                    checkpoints--;
                    break;
            }
        }
    }

    /** What the disk or the pool has of a page. */
    private static final class Contents {
        private final int[] keys = new int[SLOTS];
        private final int[] values = new int[SLOTS];
        private int lsn;

        private Contents() {
            for (int slot = 0; slot < SLOTS; slot++) {
                keys[slot] = NO_KEY;
            }
        }

        private void copy(Contents from) {
            for (int slot = 0; slot < SLOTS; slot++) {
                keys[slot] = from.keys[slot];
                values[slot] = from.values[slot];
            }
            lsn = from.lsn;
        }
    }

    /** The disk and, over it, the pool; a page has its own frame, used while the page is in. */
    private static final class Pool {
        private final Log log;
        private final Contents[] disk = new Contents[PAGES];
        private final Contents[] frames = new Contents[PAGES];
        private final boolean[] isIn = new boolean[PAGES];
        /** NO_LSN for a page that is clean or not in. */
        private final int[] recs = new int[PAGES];
        private final int[] fetchedAt = new int[PAGES];
        private int fetches;
        private int cameIn;
        private int written;

        private Pool(Log log) {
            this.log = log;
            for (int page = 0; page < PAGES; page++) {
                disk[page] = new Contents();
                frames[page] = new Contents();
            }
        }

        private boolean isDirty(int page) {
            return recs[page] != NO_LSN;
        }

        private void writeOut(int page) {
            log.makeStable(frames[page].lsn);
            disk[page].copy(frames[page]);
            recs[page] = NO_LSN;
            written++;
        }

        private void fetch(int page) {
            if (!isIn[page]) {
                int leaving = pageToLeave();
                if (leaving != NOT_THERE) {
                    if (isDirty(leaving)) {
                        writeOut(leaving);
                    }
                    isIn[leaving] = false;
                }
                frames[page].copy(disk[page]);
                isIn[page] = true;
                cameIn++;
            }
            fetches++;
            fetchedAt[page] = fetches;
        }

        /** None has to leave as long as the pool is not full. */
        private int pageToLeave() {
            int pagesIn = 0;
            int oldest = NOT_THERE;
            for (int page = 0; page < PAGES; page++) {
                if (isIn[page]) {
                    pagesIn++;
                    if (oldest == NOT_THERE || fetchedAt[page] < fetchedAt[oldest]) {
                        oldest = page;
                    }
                }
            }
            return pagesIn < POOL_PAGES ? NOT_THERE : oldest;
        }

        private void empty() {
            for (int page = 0; page < PAGES; page++) {
                isIn[page] = false;
                recs[page] = NO_LSN;
            }
        }

        private Contents seen(int page) {
            return isIn[page] ? frames[page] : disk[page];
        }

        private int keyAt(int place) {
            return seen(place / SLOTS).keys[place % SLOTS];
        }

        private int valueAt(int place) {
            return seen(place / SLOTS).values[place % SLOTS];
        }

        /** The least place with this key, or with NO_KEY the least free one. */
        private int placeOf(int key) {
            for (int place = 0; place < PLACES; place++) {
                if (keyAt(place) == key) {
                    return place;
                }
            }
            return NOT_THERE;
        }

        private int leastKeyAbove(int bound) {
            int least = NOT_THERE;
            for (int place = 0; place < PLACES; place++) {
                int key = keyAt(place);
                if (key != NO_KEY && key > bound && (least == NOT_THERE || key < least)) {
                    least = key;
                }
            }
            return least;
        }

        private void takeBack(int update) {
            fetch(log.places[update] / SLOTS);
            apply(log.addClr(update));
        }

        private void redo(int lsn) {
            int page = log.places[lsn] / SLOTS;
            fetch(page);
            if (frames[page].lsn < lsn) {
                apply(lsn);
            }
        }

        private void apply(int lsn) {
            int page = log.places[lsn] / SLOTS;
            int slot = log.places[lsn] % SLOTS;
            frames[page].keys[slot] = log.keysThen[lsn];
            frames[page].values[slot] = log.valuesThen[lsn];
            frames[page].lsn = lsn;
            if (!isDirty(page)) {
                recs[page] = lsn;
            }
        }
    }

    /** The restart, unit by unit. */
    private static final class Recovery {
        private final Log log;
        private final Pool pool;
        /** By page: its LSN in the table, NO_LSN if it is not there. */
        private final int[] table = new int[PAGES];
        private boolean isAnalysed;
        private int nextRedo;
        /** The undo puts CLRs behind this one, and those are not to be repeated. */
        private int lastRedo;

        private Recovery(Log log, Pool pool) {
            this.log = log;
            this.pool = pool;
        }

        private void startAnew() {
            isAnalysed = false;
        }

        private boolean isFinished() {
            return isAnalysed && nextRedo > lastRedo && log.greatestOpen() == NO_LSN;
        }

        private void makeUnit() {
            if (!isAnalysed) {
                analyse();
            } else if (nextRedo <= lastRedo) {
                repeatNext();
            } else {
                takeBackNext();
            }
        }

        private void analyse() {
            fillTable();
            lastRedo = log.size;
            nextRedo = log.size + 1;
            for (int page = 0; page < PAGES; page++) {
                if (table[page] != NO_LSN) {
                    nextRedo = Math.min(nextRedo, table[page]);
                }
            }
            isAnalysed = true;
        }

        private void fillTable() {
            int latest = log.checkpoints - 1;
            for (int page = 0; page < PAGES; page++) {
                table[page] = latest < 0 ? NO_LSN : log.checkpointRecs[latest][page];
            }
            int first = latest < 0 ? 1 : log.checkpointLsns[latest] + 1;
            for (int lsn = first; lsn <= log.size; lsn++) {
                int page = log.places[lsn] / SLOTS;
                if (log.isChange(lsn) && table[page] == NO_LSN) {
                    table[page] = lsn;
                }
            }
        }

        private void repeatNext() {
            int lsn = nextRedo;
            nextRedo++;
            if (!log.isChange(lsn)) {
                return;
            }
            int least = table[log.places[lsn] / SLOTS];
            if (least != NO_LSN && least <= lsn) {
                pool.redo(lsn);
            }
        }

        private void takeBackNext() {
            int open = log.greatestOpen();
            if (open != NO_LSN) {
                pool.takeBack(open);
            }
        }
    }
}
