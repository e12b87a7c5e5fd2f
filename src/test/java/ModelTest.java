import java.util.ArrayList;
import java.util.List;

/**
 * Runs of calls, mixed by a fixed rule, on a LogStore and on the Model beside it: every answer
 * must be the same. A run that differs is printed up to the call that was answered wrongly.
 */
public final class ModelTest {
    private static final int RUNS = 4000;
    private static final int CALLS = 512;
    private static final String[] NAMES = {"begin", "read", "write", "commit", "abort", "force",
        "checkpoint", "flush", "crash", "restart", "up", "state", "outcome", "value", "stored",
        "place", "after", "count", "page"};

    private Numbers numbers;
    private LogStore store;
    private Model model;
    private int keys;
    private int[] weights;
    private final int[] done = new int[NAMES.length];
    private final List<String> told = new ArrayList<>();

    public static void main(String[] args) {
        ModelTest test = new ModelTest();
        for (int run = 1; run <= RUNS; run++) {
            if (!test.runIsSame(run)) {
                test.told.forEach(System.out::println);
                System.out.println("ModelTest: run " + run + " differs from the model");
                System.exit(1);
            }
        }
        for (int kind = 0; kind < NAMES.length; kind++) {
            if (test.done[kind] == 0) {
                System.out.println("ModelTest: no run did " + NAMES[kind]);
                System.exit(1);
            }
        }
        System.out.println("ModelTest: " + RUNS + " runs are as the model's");
    }

    private boolean runIsSame(int run) {
        numbers = new Numbers(run);
        store = new LogStore();
        model = new Model();
        told.clear();
        mix();
        for (int call = 0; call < CALLS; call++) {
            if (!callIsSame()) {
                return false;
            }
        }
        return true;
    }

    /** Each run has its own mix, so that limits, crowds and crashes all come up often. */
    private void mix() {
        keys = numbers.pickOf(2, 4, 9, 30, 100);
        weights = new int[NAMES.length];
        for (int kind = 0; kind < weights.length; kind++) {
            weights[kind] = kind < 10 ? 2 + numbers.pick(20) : 4;
        }
        weights[0] += 12;
        weights[1] += 10;
        weights[2] += 10 + numbers.pick(40);
        weights[4] = numbers.pick(8);
        weights[5] = numbers.pick(12);
        weights[6] = numbers.pick(3) == 0 ? 12 : 2;
        weights[8] = numbers.pick(3) == 0 ? 12 : 2;
    }

    private int pickKind() {
        int sum = 0;
        for (int weight : weights) {
            sum += weight;
        }
        int left = numbers.pick(sum);
        int kind = 0;
        while (left >= weights[kind]) {
            left -= weights[kind];
            kind++;
        }
        return kind;
    }

    /** Mostly a transaction that may be live, now and then any number. */
    private int pickTransaction() {
        if (numbers.pick(30) == 0) {
            return numbers.pickOf(0, -1, 61, Integer.MIN_VALUE, Integer.MAX_VALUE);
        }
        List<Integer> live = new ArrayList<>();
        int begun = 0;
        while (model.state(begun + 1) != 0) {
            begun++;
            if (model.state(begun) <= 3) {
                live.add(begun);
            }
        }
        if (live.isEmpty() || numbers.pick(8) == 0) {
            return numbers.pick(begun + 2);
        }
        return live.get(numbers.pick(live.size()));
    }

    private int pickKey() {
        if (numbers.pick(40) == 0) {
            return numbers.pickOf(-1, 100, 99, -2, Integer.MIN_VALUE, Integer.MAX_VALUE);
        }
        return numbers.pick(keys);
    }

    private int pickUnits() {
        if (numbers.pick(12) == 0) {
            return numbers.pickOf(0, -1, 101, Integer.MIN_VALUE, Integer.MAX_VALUE);
        }
        return numbers.pick(3) == 0 ? 1 + numbers.pick(100) : 1 + numbers.pick(9);
    }

    private int pickStable() {
        if (numbers.pick(12) == 0) {
            return numbers.pickOf(-1, Integer.MIN_VALUE, Integer.MAX_VALUE);
        }
        return numbers.pick(12);
    }

    private boolean callIsSame() {
        int kind = pickKind();
        int t = pickTransaction();
        int key = pickKey();
        switch (NAMES[kind]) {
            case "begin": return same(kind, store.begin(), model.begin());
            case "read": return same(kind, store.read(t, key), model.read(t, key), t, key);
            case "write": {
                int value = numbers.pick(5) - 1;
                return same(kind, store.write(t, key, value), model.write(t, key, value),
                        t, key, value);
            }
            case "commit": return same(kind, store.commit(t), model.commit(t), t);
            case "abort": return same(kind, store.abort(t), model.abort(t), t);
            case "force": return same(kind, store.force(), model.force());
            case "checkpoint": return same(kind, store.checkpoint(), model.checkpoint());
            case "flush": {
                int page = numbers.pick(8) - 1;
                return same(kind, store.flush(page), model.flush(page), page);
            }
            case "crash": {
                int k = pickStable();
                return same(kind, store.crash(k), model.crash(k), k);
            }
            case "restart": {
                int n = pickUnits();
                return same(kind, store.restart(n), model.restart(n), n);
            }
            default: return lookIsSame(kind, t, key);
        }
    }

    private boolean lookIsSame(int kind, int t, int key) {
        int what = numbers.pick(6) - 1;
        switch (NAMES[kind]) {
            case "up": return same(kind, store.up(), model.up());
            case "state": return same(kind, store.state(t), model.state(t), t);
            case "outcome": return same(kind, store.outcome(t), model.outcome(t), t);
            case "value": return same(kind, store.value(t), model.value(t), t);
            case "stored": return same(kind, store.stored(key), model.stored(key), key);
            case "place": return same(kind, store.place(key), model.place(key), key);
            case "after": return same(kind, store.after(key), model.after(key), key);
            case "count": return same(kind, store.count(what), model.count(what), what);
            default: {
                int page = numbers.pick(8) - 1;
                return same(kind, store.page(page, what), model.page(page, what), page, what);
            }
        }
    }

    private boolean same(int kind, boolean got, boolean want, int... arguments) {
        return same(kind, got ? 1 : 0, want ? 1 : 0, arguments);
    }

    private boolean same(int kind, int got, int want, int... arguments) {
        done[kind]++;
        StringBuilder text = new StringBuilder(NAMES[kind]).append('(');
        for (int i = 0; i < arguments.length; i++) {
            text.append(i == 0 ? "" : ", ").append(arguments[i]);
        }
        text.append(") answered ").append(got);
        if (got != want) {
            text.append(", due is ").append(want);
        }
        told.add(text.toString());
        return got == want;
    }
}
