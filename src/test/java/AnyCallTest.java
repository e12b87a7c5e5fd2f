/**
 * No call ever throws or fails to end, whatever its arguments and however many calls there were;
 * after the 512th the answers are free, but an answer there must be.
 */
public final class AnyCallTest {
    private static final int RUNS = 200;
    private static final int CALLS = 5000;
    private static final int[] ODD = {Integer.MIN_VALUE, Integer.MIN_VALUE + 1, -101, -100, -1, 0,
        1, 2, 3, 4, 5, 6, 23, 24, 59, 60, 61, 99, 100, 101, Integer.MAX_VALUE - 1,
        Integer.MAX_VALUE};
    private static Numbers numbers;

    public static void main(String[] args) {
        long sum = 0;
        for (int run = 1; run <= RUNS; run++) {
            numbers = new Numbers(run);
            LogStore x = new LogStore();
            for (int call = 0; call < CALLS; call++) {
                sum += call(x, numbers.pick(19), number(), number(), number());
            }
        }
        System.out.println("AnyCallTest: " + RUNS * CALLS + " calls answered, sum " + sum);
    }

    private static int number() {
        int kind = numbers.pick(8);
        return kind == 0 ? numbers.pickOf(ODD) : kind < 6 ? numbers.pick(7) : numbers.pick(64);
    }

    private static long call(LogStore x, int kind, int a, int b, int c) {
        switch (kind) {
            case 0: return x.begin();
            case 1: return x.read(a, b);
            case 2: return x.write(a, b, c);
            case 3: return x.commit(a) ? 1 : 0;
            case 4: return x.abort(a) ? 1 : 0;
            case 5: return x.force() ? 1 : 0;
            case 6: return x.checkpoint();
            case 7: return x.flush(a) ? 1 : 0;
            case 8: return numbers.pick(20) == 0 ? x.crash(a) : 0;
            case 9: return x.restart(a);
            case 10: return x.up() ? 1 : 0;
            case 11: return x.state(a);
            case 12: return x.outcome(a);
            case 13: return x.value(a);
            case 14: return x.stored(a);
            case 15: return x.place(a);
            case 16: return x.after(a);
            case 17: return x.count(a);
            default: return x.page(a, b);
        }
    }
}
