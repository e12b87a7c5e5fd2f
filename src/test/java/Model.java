import java.util.ArrayList;
import java.util.Arrays;
import java.util.HashMap;
import java.util.HashSet;
import java.util.List;
import java.util.Map;
import java.util.Set;
import java.util.TreeMap;

/**
 * The document's terms, word for word and with no thought of speed: nothing is kept that a term
 * defines by other things, but it is worked out anew wherever it is asked for.
 */
final class Model {
    record Held(int key, int value) { }

    sealed interface Rec permits Update, Clr, Commit, Checkpoint { }

    record Update(int t, int place, Held before, Held then) implements Rec { }

    record Clr(int update, int t, int place, Held before) implements Rec { }

    record Commit(int t) implements Rec { }

    record Checkpoint(Map<Integer, Integer> dirty) implements Rec { }

    record Version(List<Held> places, int lsn) {
        Version with(int slot, Held held, int newLsn) {
            List<Held> copy = new ArrayList<>(places);
            copy.set(slot, held);
            return new Version(copy, newLsn);
        }
    }

    /** rec 0: clean. */
    record Pooled(int page, Version version, int rec) { }

    record Request(int t, int key, boolean exclusive, int value) { }

    private final List<Rec> log = new ArrayList<>();
    private int stable;
    private final Version[] disk = new Version[6];
    /** The page whose latest fetch is longest ago stands first. */
    private final List<Pooled> pool = new ArrayList<>();
    private int came;
    private int written;
    private final List<Integer> states = new ArrayList<>(List.of(0));
    private final Map<Integer, Integer> outcomes = new HashMap<>();
    private final Map<Integer, Integer> values = new HashMap<>();
    /** By transaction and key: true for an exclusive lock. */
    private final Map<Integer, Map<Integer, Boolean>> locks = new HashMap<>();
    /** In the order in which they were made. */
    private final List<Request> waiting = new ArrayList<>();
    private boolean isUp = true;
    private int crashes;
    /** Units of the restart that were made since the crash. */
    private int units;
    private Map<Integer, Integer> table = new TreeMap<>();
    private int logAtCrash;

    Model() {
        Arrays.fill(disk, new Version(Arrays.asList(null, null, null, null), 0));
    }

    // Log

    private int put(Rec rec) {
        log.add(rec);
        return log.size();
    }

    private Rec at(int lsn) {
        return log.get(lsn - 1);
    }

    private boolean hasCommit(int t) {
        return log.contains(new Commit(t));
    }

    private boolean isOpen(int lsn) {
        if (!(at(lsn) instanceof Update update)) {
            return false;
        }
        for (Rec rec : log) {
            if (rec instanceof Clr clr && clr.update() == lsn) {
                return false;
            }
        }
        return !hasCommit(update.t());
    }

    private List<Integer> openDown() {
        List<Integer> open = new ArrayList<>();
        for (int lsn = log.size(); lsn >= 1; lsn--) {
            if (isOpen(lsn)) {
                open.add(lsn);
            }
        }
        return open;
    }

    private int placeOfRecord(Rec rec) {
        return rec instanceof Update u ? u.place() : rec instanceof Clr c ? c.place() : -1;
    }

    // Pool

    private Pooled pooled(int page) {
        for (Pooled one : pool) {
            if (one.page() == page) {
                return one;
            }
        }
        return null;
    }

    private void replace(Pooled one) {
        for (int i = 0; i < pool.size(); i++) {
            if (pool.get(i).page() == one.page()) {
                pool.set(i, one);
            }
        }
    }

    private void writePage(Pooled one) {
        stable = Math.max(stable, one.version().lsn());
        disk[one.page()] = one.version();
        replace(new Pooled(one.page(), one.version(), 0));
        written++;
    }

    private void fetch(int page) {
        Pooled one = pooled(page);
        if (one != null) {
            pool.remove(one);
            pool.add(one);
            return;
        }
        if (pool.size() == 3) {
            if (pool.get(0).rec() != 0) {
                writePage(pool.get(0));
            }
            pool.remove(0);
        }
        pool.add(new Pooled(page, disk[page], 0));
        came++;
    }

    private void apply(int lsn) {
        Rec rec = at(lsn);
        int place = placeOfRecord(rec);
        Held held = rec instanceof Update u ? u.then() : ((Clr) rec).before();
        Pooled one = pooled(place / 4);
        replace(new Pooled(place / 4, one.version().with(place % 4, held, lsn),
                one.rec() == 0 ? lsn : one.rec()));
    }

    private Held held(int place) {
        Pooled one = pooled(place / 4);
        Version version = one != null ? one.version() : disk[place / 4];
        return version.places().get(place % 4);
    }

    private void takeBack(int lsn) {
        Update update = (Update) at(lsn);
        fetch(update.place() / 4);
        apply(put(new Clr(lsn, update.t(), update.place(), update.before())));
    }

    // Locks

    private Boolean lock(int t, int key) {
        return locks.getOrDefault(t, Map.of()).get(key);
    }

    private Set<Integer> conflicting(Request request) {
        Set<Integer> found = new HashSet<>();
        for (int other = 1; other < states.size(); other++) {
            Boolean lock = lock(other, request.key());
            if (other != request.t() && lock != null && (lock || request.exclusive())) {
                found.add(other);
            }
        }
        return found;
    }

    private Set<Integer> earlier(Request request) {
        Set<Integer> found = new HashSet<>();
        for (Request other : waiting) {
            if (other == request) {
                break;
            }
            if (other.t() != request.t() && other.key() == request.key()) {
                found.add(other.t());
            }
        }
        return found;
    }

    private boolean isFit(Request request) {
        Boolean own = lock(request.t(), request.key());
        if (own == null) {
            return conflicting(request).isEmpty() && earlier(request).isEmpty();
        }
        if (own || !request.exclusive()) {
            return true;
        }
        for (int other = 1; other < states.size(); other++) {
            if (other != request.t() && lock(other, request.key()) != null) {
                return false;
            }
        }
        return true;
    }

    private Set<Integer> waitsFor(int t) {
        Set<Integer> found = new HashSet<>();
        for (Request request : waiting) {
            if (request.t() == t) {
                found.addAll(conflicting(request));
                if (lock(t, request.key()) == null) {
                    found.addAll(earlier(request));
                }
            }
        }
        return found;
    }

    private boolean comesBack(int from, int to, Set<Integer> met) {
        for (int next : waitsFor(from)) {
            if (next == to || met.add(next) && comesBack(next, to, met)) {
                return true;
            }
        }
        return false;
    }

    private void grant(Request request) {
        locks.computeIfAbsent(request.t(), x -> new HashMap<>())
                .merge(request.key(), request.exclusive(), Boolean::logicalOr);
        outcomes.put(request.t(), request.exclusive() ? doWrite(request) : doRead(request));
    }

    private int doRead(Request request) {
        int place = place(request.key());
        if (place >= 0) {
            fetch(place / 4);
        }
        values.put(request.t(), place >= 0 ? held(place).value() : 0);
        return 0;
    }

    private int doWrite(Request request) {
        int place = place(request.key());
        for (int x = 23; x >= 0 && place(request.key()) < 0; x--) {
            place = held(x) == null ? x : place;
        }
        long updates = log.stream().filter(rec -> rec instanceof Update).count();
        if (updates == 60 || place < 0) {
            return 3;
        }
        fetch(place / 4);
        apply(put(new Update(request.t(), place, held(place),
                new Held(request.key(), request.value()))));
        return 0;
    }

    private void rollBack(int t) {
        for (int lsn : openDown()) {
            if (((Update) at(lsn)).t() == t) {
                takeBack(lsn);
            }
        }
        states.set(t, 5);
        waiting.removeIf(request -> request.t() == t);
        locks.remove(t);
    }

    private void settle() {
        while (isUp && (settleCommit() || settleRequest())) {
            continue;
        }
    }

    private boolean settleCommit() {
        for (int lsn = 1; lsn <= stable; lsn++) {
            if (at(lsn) instanceof Commit commit && states.get(commit.t()) == 3) {
                states.set(commit.t(), 4);
                locks.remove(commit.t());
                return true;
            }
        }
        return false;
    }

    private boolean settleRequest() {
        for (Request request : waiting) {
            if (isFit(request)) {
                waiting.remove(request);
                states.set(request.t(), 1);
                grant(request);
                return true;
            }
        }
        return false;
    }

    private int request(Request request) {
        if (state(request.t()) != 1 || request.key() < 0 || request.key() > 99) {
            return -1;
        }
        if (isFit(request)) {
            grant(request);
        } else {
            waiting.add(request);
            states.set(request.t(), 2);
            outcomes.put(request.t(), 1);
            if (comesBack(request.t(), request.t(), new HashSet<>())) {
                outcomes.put(request.t(), 2);
                rollBack(request.t());
            }
        }
        int answer = outcomes.get(request.t());
        settle();
        return answer;
    }

    // Restart

    private List<Integer> toRepeat() {
        List<Integer> lsns = new ArrayList<>();
        int from = table.values().stream().min(Integer::compare).orElse(Integer.MAX_VALUE);
        for (int lsn = 1; lsn <= logAtCrash; lsn++) {
            if (lsn >= from) {
                lsns.add(lsn);
            }
        }
        return lsns;
    }

    private void analyse() {
        table = new TreeMap<>();
        int c = 0;
        for (int lsn = 1; lsn <= log.size(); lsn++) {
            if (at(lsn) instanceof Checkpoint checkpoint) {
                c = lsn;
                table = new TreeMap<>(checkpoint.dirty());
            }
        }
        for (int lsn = c + 1; lsn <= log.size(); lsn++) {
            if (placeOfRecord(at(lsn)) >= 0) {
                table.putIfAbsent(placeOfRecord(at(lsn)) / 4, lsn);
            }
        }
    }

    private void repeat(int lsn) {
        int page = placeOfRecord(at(lsn)) < 0 ? -1 : placeOfRecord(at(lsn)) / 4;
        if (table.containsKey(page) && table.get(page) <= lsn) {
            fetch(page);
            if (pooled(page).version().lsn() < lsn) {
                apply(lsn);
            }
        }
    }

    private void unit() {
        if (units == 0) {
            analyse();
        } else if (units <= toRepeat().size()) {
            repeat(toRepeat().get(units - 1));
        } else {
            takeBack(openDown().get(0));
        }
        units++;
        if (units > toRepeat().size() && openDown().isEmpty()) {
            isUp = true;
            for (int t = 1; t < states.size(); t++) {
                if (states.get(t) == 6) {
                    states.set(t, hasCommit(t) ? 4 : 5);
                }
            }
        }
    }

    // The face

    int begin() {
        long live = states.stream().filter(state -> state >= 1 && state <= 3).count();
        if (!isUp || live == 4 || states.size() == 61) {
            return -1;
        }
        states.add(1);
        return states.size() - 1;
    }

    int read(int t, int key) {
        return request(new Request(t, key, false, 0));
    }

    int write(int t, int key, int value) {
        return request(new Request(t, key, true, value));
    }

    boolean commit(int t) {
        if (state(t) != 1) {
            return false;
        }
        put(new Commit(t));
        states.set(t, 3);
        return true;
    }

    boolean abort(int t) {
        if (state(t) != 1 && state(t) != 2) {
            return false;
        }
        rollBack(t);
        settle();
        return true;
    }

    boolean force() {
        if (isUp) {
            stable = log.size();
            settle();
        }
        return isUp;
    }

    int checkpoint() {
        if (!isUp || log.stream().filter(rec -> rec instanceof Checkpoint).count() == 20) {
            return -1;
        }
        Map<Integer, Integer> dirty = new TreeMap<>();
        for (Pooled one : pool) {
            if (one.rec() != 0) {
                dirty.put(one.page(), one.rec());
            }
        }
        return put(new Checkpoint(dirty));
    }

    boolean flush(int page) {
        if (!isUp || pooled(page) == null || pooled(page).rec() == 0) {
            return false;
        }
        writePage(pooled(page));
        settle();
        return true;
    }

    int crash(int k) {
        if (k < 0 || crashes == 8) {
            return -1;
        }
        crashes++;
        stable = (int) Math.min((long) stable + k, log.size());
        while (log.size() > stable) {
            log.remove(log.size() - 1);
        }
        logAtCrash = log.size();
        isUp = false;
        units = 0;
        pool.clear();
        locks.clear();
        waiting.clear();
        states.replaceAll(state -> state >= 1 && state <= 3 ? 6 : state);
        return log.size();
    }

    int restart(int n) {
        if (isUp || n < 1 || n > 100) {
            return -1;
        }
        int made = 0;
        while (!isUp && made < n) {
            unit();
            made++;
        }
        settle();
        return made;
    }

    boolean up() {
        return isUp;
    }

    int state(int t) {
        return t < 1 || t >= states.size() ? 0 : states.get(t);
    }

    int outcome(int t) {
        return outcomes.getOrDefault(t, -1);
    }

    int value(int t) {
        return values.getOrDefault(t, 0);
    }

    int stored(int key) {
        return place(key) < 0 ? 0 : held(place(key)).value();
    }

    int place(int key) {
        for (int x = 0; x < 24; x++) {
            if (held(x) != null && held(x).key() == key) {
                return x;
            }
        }
        return -1;
    }

    int after(int key) {
        for (int other = 0; other <= 99 && isUp; other++) {
            if (other > key && place(other) >= 0) {
                return other;
            }
        }
        return -1;
    }

    int count(int what) {
        return switch (what) {
            case 0 -> log.size();
            case 1 -> stable;
            case 2 -> came;
            case 3 -> written;
            default -> -1;
        };
    }

    int page(int page, int what) {
        if (page < 0 || page > 5) {
            return -1;
        }
        return switch (what) {
            case 0 -> pooled(page) == null ? -1 : pooled(page).rec();
            case 1 -> pooled(page) == null ? -1 : pooled(page).version().lsn();
            case 2 -> disk[page].lsn();
            default -> -1;
        };
    }
}
