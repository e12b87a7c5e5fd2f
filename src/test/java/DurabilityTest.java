import java.util.ArrayList;
import java.util.HashMap;
import java.util.List;
import java.util.Map;

/**
 * What the whole is for, without regard to how: whenever the store comes up, and whenever no
 * transaction is live, its keys have the values that committed transactions wrote last.
 */
public final class DurabilityTest {
    private static final int RUNS = 3000;
    private static final int KEYS = 26;
    private static final Due DUE = new Due("DurabilityTest");

    private Numbers numbers;
    private LogStore x;
    private int begun;
    private int calls;
    private final Map<Integer, Integer> committed = new HashMap<>();
    /** By transaction that is not known to be at its end: what it wrote. */
    private final Map<Integer, Map<Integer, Integer>> written = new HashMap<>();
    private final Map<Integer, int[]> asked = new HashMap<>();

    public static void main(String[] args) {
        DurabilityTest test = new DurabilityTest();
        for (int run = 1; run <= RUNS; run++) {
            DUE.promise("run " + run);
            test.run(run);
        }
        DUE.end();
    }

    private void run(int number) {
        numbers = new Numbers(number);
        x = new LogStore();
        begun = 0;
        calls = 0;
        committed.clear();
        written.clear();
        asked.clear();
        int crashes = 0;
        // What comes after the last of these takes far less than the 212 calls that are left.
        while (calls < 300) {
            step();
            if (crashes < 3 && numbers.pick(60) == 0) {
                crashAndRestart();
                crashes++;
            }
        }
        crashAndRestart();
    }

    private void step() {
        calls += 2;
        int t = Math.max(1, begun - numbers.pick(5));
        switch (numbers.pick(10)) {
            case 0: case 1:
                begun = Math.max(begun, x.begin());
                break;
            case 2:
                x.read(t, numbers.pick(KEYS));
                break;
            case 3: case 4: case 5: case 6:
                write(t, numbers.pick(KEYS), 1 + numbers.pick(1000));
                break;
            case 7:
                x.commit(t);
                break;
            case 8:
                if (numbers.pick(3) == 0) {
                    x.abort(t);
                } else {
                    x.flush(numbers.pick(6));
                }
                break;
            default:
                if (numbers.pick(4) == 0) {
                    x.checkpoint();
                } else if (numbers.pick(2) == 0) {
                    x.force();
                }
                break;
        }
        note();
    }

    private void write(int t, int key, int value) {
        int answer = x.write(t, key, value);
        if (answer == 0) {
            written.computeIfAbsent(t, y -> new HashMap<>()).put(key, value);
        } else if (answer == 1) {
            asked.put(t, new int[] {key, value});
        }
    }

    /** A write that waited counts once it was done, a transaction's writes once it committed. */
    private void note() {
        for (int t : new ArrayList<>(asked.keySet())) {
            calls++;
            int outcome = x.outcome(t);
            if (outcome == 0) {
                int[] request = asked.remove(t);
                written.computeIfAbsent(t, y -> new HashMap<>()).put(request[0], request[1]);
            } else if (outcome == 3) {
                asked.remove(t);
            }
        }
        List<Integer> ended = new ArrayList<>();
        for (int t : written.keySet()) {
            calls++;
            int state = x.state(t);
            if (state == 4) {
                committed.putAll(written.get(t));
            }
            if (state == 4 || state == 5) {
                ended.add(t);
            }
        }
        written.keySet().removeAll(ended);
    }

    private void crashAndRestart() {
        x.crash(numbers.pick(2) == 0 ? 0 : numbers.pick(10));
        if (numbers.pick(2) == 0) {
            x.restart(1 + numbers.pick(30));
            x.crash(numbers.pick(4));
        }
        for (int i = 0; i < 5 && !x.up(); i++) {
            x.restart(100);
        }
        calls += 14;
        asked.clear();
        note();
        DUE.is("up()", x.up(), true);
        DUE.is("number of transactions in doubt", written.size(), 0);
        for (int key = 0; key < KEYS; key++) {
            calls++;
            DUE.is("stored(" + key + ")", x.stored(key), committed.getOrDefault(key, 0));
        }
    }
}
