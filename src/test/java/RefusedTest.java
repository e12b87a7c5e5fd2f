import java.util.ArrayList;
import java.util.List;
import java.util.function.Predicate;
import java.util.function.Supplier;
import java.util.function.ToIntFunction;

/**
 * "A call that is refused changes nothing.": of two objects with the same calls behind them one
 * gets a call more, which is refused; then both get the same calls and must answer alike. So must
 * they if the call more is one that looks.
 */
public final class RefusedTest {
    private static final Due DUE = new Due("RefusedTest");
    private static final int MIN = Integer.MIN_VALUE;
    private static final int MAX = Integer.MAX_VALUE;

    private record Call(String name, ToIntFunction<LogStore> call, int due) { }

    public static void main(String[] args) {
        inANewStore();
        amongFourLiveOnes();
        ofThoseThatHaveEnded();
        afterSixtyTransactions();
        afterTwentyCheckpoints();
        afterEightCrashes();
        whileDown(0);
        whileDown(1);
        whileDown(6);
        whileDown(20);
        DUE.end();
    }

    private static Call number(String name, ToIntFunction<LogStore> call) {
        return new Call(name, call, -1);
    }

    private static Call truth(String name, Predicate<LogStore> call) {
        return new Call(name, x -> call.test(x) ? 1 : 0, 0);
    }

    private static void inANewStore() {
        List<Call> calls = wrongNumbers();
        for (int t = 0; t < 3; t++) {
            calls.addAll(callsOf(t));
        }
        calls.add(truth("flush(0)", x -> x.flush(0)));
        calls.add(number("restart(1)", x -> x.restart(1)));
        calls.add(number("restart(100)", x -> x.restart(100)));
        changeNothing("new", LogStore::new, calls);
    }

    /** 1 is active, 2 waits, 3 is committing, 4 is active; page 0 has left, page 1 is clean. */
    private static LogStore busy() {
        LogStore x = Stores.withKeys(12);
        x.begin();
        x.begin();
        x.begin();
        x.read(3, 40);
        x.write(4, 50, 4);
        x.read(2, 40);
        x.write(2, 50, 2);
        x.commit(3);
        x.flush(1);
        return x;
    }

    private static void amongFourLiveOnes() {
        List<Call> calls = wrongNumbers();
        calls.add(number("begin()", LogStore::begin));
        calls.addAll(callsOf(2));
        // 2 waits and so may be aborted.
        calls.removeIf(call -> call.name().equals("abort(2)"));
        calls.addAll(callsOf(3));
        calls.addAll(callsOf(5));
        for (int key : new int[] {-1, 100, MIN, MAX}) {
            calls.add(number("read(1, " + key + ")", x -> x.read(1, key)));
            calls.add(number("write(4, " + key + ", 1)", x -> x.write(4, key, 1)));
        }
        calls.add(truth("flush(0), not in the pool", x -> x.flush(0)));
        calls.add(truth("flush(1), clean", x -> x.flush(1)));
        calls.add(number("restart(1)", x -> x.restart(1)));
        changeNothing("busy", RefusedTest::busy, calls);
    }

    private static LogStore ended() {
        LogStore x = Stores.withKeys(5);
        x.commit(1);
        x.force();
        x.begin();
        x.write(2, 0, 2);
        x.abort(2);
        x.begin();
        x.begin();
        x.write(3, 1, 3);
        x.write(4, 2, 4);
        x.read(3, 2);
        x.read(4, 1);
        return x;
    }

    private static void ofThoseThatHaveEnded() {
        List<Call> calls = callsOf(1);
        calls.addAll(callsOf(2));
        calls.addAll(callsOf(4));
        changeNothing("ended", RefusedTest::ended, calls);
    }

    private static LogStore sixty() {
        LogStore x = new LogStore();
        for (int t = 1; t <= 60; t++) {
            x.begin();
            if (t <= 58) {
                x.abort(t);
            }
        }
        x.write(59, 1, 1);
        x.read(60, 1);
        return x;
    }

    private static void afterSixtyTransactions() {
        List<Call> calls = callsOf(61);
        calls.add(number("begin()", LogStore::begin));
        changeNothing("sixty", RefusedTest::sixty, calls);
    }

    private static LogStore twentyCheckpoints() {
        LogStore x = Stores.withKeys(3);
        for (int i = 1; i <= 20; i++) {
            x.checkpoint();
            x.flush(0);
        }
        x.write(1, 7, 7);
        return x;
    }

    private static void afterTwentyCheckpoints() {
        changeNothing("twenty checkpoints", RefusedTest::twentyCheckpoints,
            List.of(number("checkpoint()", LogStore::checkpoint)));
    }

    private static LogStore eightCrashes() {
        LogStore x = Stores.withKeys(3);
        for (int i = 1; i <= 8; i++) {
            x.crash(2);
            x.restart(i);
        }
        return x;
    }

    private static void afterEightCrashes() {
        List<Call> calls = List.of(number("crash(0)", x -> x.crash(0)),
            number("crash(9)", x -> x.crash(9)), number("crash(-1)", x -> x.crash(-1)));
        changeNothing("eight crashes", RefusedTest::eightCrashes, calls);
        changeNothing("eight crashes, up", () -> {
            LogStore x = eightCrashes();
            x.restart(100);
            x.begin();
            x.write(2, 7, 7);
            return x;
        }, calls);
    }

    /** Of the units that are due, one is the analysis, then nine are the redo and 15 the undo. */
    private static void whileDown(int units) {
        List<Call> calls = wrongNumbers();
        for (int t = 0; t <= 5; t++) {
            calls.addAll(callsOf(t));
        }
        calls.add(number("begin()", LogStore::begin));
        calls.add(number("checkpoint()", LogStore::checkpoint));
        calls.add(truth("force()", LogStore::force));
        for (int page = 0; page < 6; page++) {
            int asked = page;
            calls.add(truth("flush(" + page + ")", x -> x.flush(asked)));
        }
        changeNothing("down, units " + units, () -> {
            LogStore x = busy();
            x.write(1, 1, 9);
            x.write(4, 13, 9);
            x.checkpoint();
            x.crash(99);
            x.restart(units);
            return x;
        }, calls);
    }

    /** Calls with numbers that are never right. */
    private static List<Call> wrongNumbers() {
        List<Call> calls = new ArrayList<>();
        for (int t : new int[] {0, -1, 61, MIN, MAX}) {
            calls.addAll(callsOf(t));
        }
        for (int page : new int[] {-1, 6, MIN, MAX}) {
            calls.add(truth("flush(" + page + ")", x -> x.flush(page)));
        }
        for (int n : new int[] {0, -1, 101, MIN, MAX}) {
            calls.add(number("restart(" + n + ")", x -> x.restart(n)));
        }
        calls.add(number("crash(-1)", x -> x.crash(-1)));
        calls.add(number("crash(MIN)", x -> x.crash(MIN)));
        return calls;
    }

    private static List<Call> callsOf(int t) {
        return new ArrayList<>(List.of(
            number("read(" + t + ", 0)", x -> x.read(t, 0)),
            number("read(" + t + ", 60)", x -> x.read(t, 60)),
            number("write(" + t + ", 0, 5)", x -> x.write(t, 0, 5)),
            number("write(" + t + ", 60, 5)", x -> x.write(t, 60, 5)),
            truth("commit(" + t + ")", x -> x.commit(t)),
            truth("abort(" + t + ")", x -> x.abort(t))));
    }

    private static void changeNothing(String when, Supplier<LogStore> make, List<Call> refused) {
        List<Integer> want = restOfTheRun(make.get());
        for (Call call : refused) {
            LogStore x = make.get();
            DUE.promise("\"A call that is refused changes nothing.\", " + when);
            DUE.is(call.name(), call.call().applyAsInt(x), call.due());
            sameAnswers(call.name(), restOfTheRun(x), want);
        }
        LogStore looked = make.get();
        look(looked, new ArrayList<>());
        DUE.promise("calls that look change nothing, " + when);
        sameAnswers("a look", restOfTheRun(looked), want);
    }

    private static void sameAnswers(String call, List<Integer> got, List<Integer> want) {
        for (int i = 0; i < want.size(); i++) {
            DUE.is("after " + call + " the call " + (i + 1), got.get(i), want.get(i));
        }
    }

    /** Goes through all that an object holds, so that what a call changed comes to light. */
    private static List<Integer> restOfTheRun(LogStore x) {
        List<Integer> answers = new ArrayList<>();
        look(x, answers);
        for (int unit = 0; unit < 5; unit++) {
            answers.add(x.restart(1));
        }
        for (int t : new int[] {1, 2, 3, 4, 59, 60}) {
            answers.add(x.read(t, 8));
            answers.add(x.write(t, 60, t));
            answers.add(x.write(t, 100 - t, t));
        }
        answers.add(x.begin());
        answers.add(x.checkpoint());
        answers.add(x.flush(2) ? 1 : 0);
        answers.add(x.abort(1) ? 1 : 0);
        answers.add(x.commit(4) ? 1 : 0);
        answers.add(x.crash(3));
        for (int i = 0; i < 3; i++) {
            answers.add(x.restart(40));
        }
        answers.add(x.begin());
        look(x, answers);
        for (int i = 0; i < 8; i++) {
            answers.add(x.crash(0));
        }
        return answers;
    }

    private static void look(LogStore x, List<Integer> answers) {
        answers.add(x.up() ? 1 : 0);
        for (int what = -1; what <= 4; what++) {
            answers.add(x.count(what));
        }
        for (int page = 0; page < 6; page++) {
            for (int what = 0; what < 3; what++) {
                answers.add(x.page(page, what));
            }
        }
        for (int t : new int[] {0, 1, 2, 3, 4, 5, 59, 60, 61}) {
            answers.add(x.state(t));
            answers.add(x.outcome(t));
            answers.add(x.value(t));
        }
        for (int key : new int[] {-1, 0, 1, 2, 3, 4, 7, 8, 11, 13, 40, 41, 50, 60, 96, 99, 100}) {
            answers.add(x.stored(key));
            answers.add(x.place(key));
        }
        answers.add(x.after(-1));
        answers.add(x.after(11));
    }
}
