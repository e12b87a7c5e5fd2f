/** Promises 1, 2, 5, 6, 12 and 13: a new object, begin, commit, abort, up, state. */
public final class TransactionsTest {
    private static final Due DUE = new Due("TransactionsTest");

    public static void main(String[] args) {
        newObject();
        beginNumbersAndStates();
        beginAtMostFourLive();
        beginAtMostSixty();
        commitNeedsAStableRecord();
        commitIsRefused();
        commitsSettleTogether();
        abortTakesBack();
        abortOfWaiting();
        abortIsRefused();
        upAndStateOverACrash();
        DUE.end();
    }

    private static void newObject() {
        DUE.promise("1 a new object");
        LogStore x = new LogStore();
        DUE.is("up()", x.up(), true);
        for (int what = 0; what <= 3; what++) {
            DUE.is("count(" + what + ")", x.count(what), 0);
        }
        for (int page = 0; page <= 5; page++) {
            DUE.is("page(" + page + ", 0)", x.page(page, 0), -1);
            DUE.is("page(" + page + ", 1)", x.page(page, 1), -1);
            DUE.is("page(" + page + ", 2)", x.page(page, 2), 0);
        }
        for (int key = 0; key <= 99; key++) {
            DUE.is("place(" + key + ")", x.place(key), -1);
            DUE.is("stored(" + key + ")", x.stored(key), 0);
        }
        DUE.is("after(-1)", x.after(-1), -1);
        DUE.is("state(1)", x.state(1), 0);
        LogStore other = new LogStore();
        x.begin();
        DUE.is("state(1) of another object", other.state(1), 0);
        DUE.is("begin() of another object", other.begin(), 1);
    }

    private static void beginNumbersAndStates() {
        DUE.promise("2 begin");
        LogStore x = new LogStore();
        DUE.is("begin()", x.begin(), 1);
        DUE.is("state(1)", x.state(1), 1);
        DUE.is("state(2)", x.state(2), 0);
        DUE.is("begin()", x.begin(), 2);
        DUE.is("state(2)", x.state(2), 1);
        DUE.is("count(0): begin logs nothing", x.count(0), 0);
        x.crash(0);
        DUE.is("begin() while down", x.begin(), -1);
        x.restart(1);
        DUE.is("begin() after the restart", x.begin(), 3);
    }

    private static void beginAtMostFourLive() {
        DUE.promise("2 begin, four live");
        LogStore x = new LogStore();
        for (int t = 1; t <= 4; t++) {
            DUE.is("begin()", x.begin(), t);
        }
        DUE.is("begin() with four active", x.begin(), -1);
        DUE.is("state(5)", x.state(5), 0);
        x.write(1, 1, 1);
        x.read(2, 1);
        DUE.is("begin() with one waiting", x.begin(), -1);
        x.commit(1);
        DUE.is("begin() with one committing", x.begin(), -1);
        x.force();
        DUE.is("begin() with one committed", x.begin(), 5);
        DUE.is("begin() with four live again", x.begin(), -1);
        x.abort(2);
        DUE.is("begin() with one aborted", x.begin(), 6);
        x.crash(0);
        x.restart(100);
        DUE.is("begin() after a crash", x.begin(), 7);
    }

    private static void beginAtMostSixty() {
        DUE.promise("2 begin, sixty ever");
        LogStore x = new LogStore();
        for (int t = 1; t <= 60; t++) {
            DUE.is("begin()", x.begin(), t);
            if (t % 20 == 0) {
                x.crash(0);
                x.restart(1);
            } else {
                x.abort(t);
            }
        }
        DUE.is("begin() the 61st", x.begin(), -1);
        DUE.is("state(60)", x.state(60), 5);
        DUE.is("state(61)", x.state(61), 0);
    }

    private static void commitNeedsAStableRecord() {
        DUE.promise("5 commit");
        LogStore x = new LogStore();
        x.begin();
        x.write(1, 5, 50);
        DUE.is("commit(1)", x.commit(1), true);
        DUE.is("count(0)", x.count(0), 2);
        DUE.is("count(1)", x.count(1), 0);
        DUE.is("state(1)", x.state(1), 3);
        DUE.is("flush(0)", x.flush(0), true);
        DUE.is("state(1), as the UPDATE alone is stable", x.state(1), 3);
        x.begin();
        DUE.is("write(2, 6, 60)", x.write(2, 6, 60), 0);
        DUE.is("state(1)", x.state(1), 3);
        DUE.is("flush(0) makes records 1 to 3 stable", x.flush(0), true);
        DUE.is("count(1)", x.count(1), 3);
        DUE.is("state(1)", x.state(1), 4);
        DUE.is("stored(5)", x.stored(5), 50);
        DUE.is("commit(2)", x.commit(2), true);
        x.force();
        DUE.is("state(2)", x.state(2), 4);
        x.begin();
        DUE.is("commit(3) without a write", x.commit(3), true);
        DUE.is("state(3)", x.state(3), 3);
        DUE.is("count(0)", x.count(0), 5);
    }

    private static void commitIsRefused() {
        DUE.promise("5 commit, refused");
        LogStore x = new LogStore();
        DUE.is("commit(0)", x.commit(0), false);
        DUE.is("commit(1)", x.commit(1), false);
        DUE.is("commit(-1)", x.commit(-1), false);
        DUE.is("commit(MAX)", x.commit(Integer.MAX_VALUE), false);
        DUE.is("commit(MIN)", x.commit(Integer.MIN_VALUE), false);
        x.begin();
        x.begin();
        x.write(1, 1, 1);
        x.write(2, 1, 2);
        DUE.is("commit(2), waiting", x.commit(2), false);
        DUE.is("state(2)", x.state(2), 2);
        x.commit(1);
        DUE.is("commit(1), committing", x.commit(1), false);
        DUE.is("count(0)", x.count(0), 2);
        x.force();
        DUE.is("commit(1), committed", x.commit(1), false);
        x.abort(2);
        DUE.is("commit(2), aborted", x.commit(2), false);
        x.begin();
        x.crash(9);
        DUE.is("commit(3), in doubt", x.commit(3), false);
        DUE.is("count(0)", x.count(0), 4);
    }

    private static void commitsSettleTogether() {
        DUE.promise("5 commit, several at once");
        LogStore x = new LogStore();
        x.begin();
        x.begin();
        x.begin();
        x.write(1, 1, 1);
        x.write(2, 2, 2);
        DUE.is("read(3, 2)", x.read(3, 2), 1);
        x.commit(2);
        x.commit(1);
        DUE.is("state(3)", x.state(3), 2);
        x.force();
        DUE.is("state(1)", x.state(1), 4);
        DUE.is("state(2)", x.state(2), 4);
        DUE.is("state(3)", x.state(3), 1);
        DUE.is("value(3)", x.value(3), 2);
    }

    private static void abortTakesBack() {
        DUE.promise("6 abort");
        LogStore x = new LogStore();
        x.begin();
        x.write(1, 5, 50);
        x.write(1, 6, 60);
        x.commit(1);
        x.force();
        x.begin();
        x.write(2, 5, 51);
        x.write(2, 7, 70);
        x.write(2, 5, 52);
        DUE.is("count(0)", x.count(0), 6);
        DUE.is("abort(2)", x.abort(2), true);
        DUE.is("state(2)", x.state(2), 5);
        DUE.is("count(0), a CLR for each UPDATE", x.count(0), 9);
        DUE.is("count(1), an abort forces nothing", x.count(1), 3);
        DUE.is("stored(5)", x.stored(5), 50);
        DUE.is("stored(6)", x.stored(6), 60);
        DUE.is("place(7)", x.place(7), -1);
        DUE.is("page(0, 1)", x.page(0, 1), 9);
        x.begin();
        DUE.is("write(3, 5, 53), no lock is left", x.write(3, 5, 53), 0);
        DUE.is("write(3, 8, 80)", x.write(3, 8, 80), 0);
        DUE.is("place(8), which 7 had", x.place(8), 2);
        x.begin();
        DUE.is("abort(4) without a write", x.abort(4), true);
        DUE.is("count(0)", x.count(0), 11);
        DUE.is("stored(5), another's write stays", x.stored(5), 53);
    }

    private static void abortOfWaiting() {
        DUE.promise("6 abort of a waiting one");
        LogStore x = new LogStore();
        x.begin();
        x.begin();
        x.begin();
        x.read(1, 1);
        DUE.is("write(2, 1, 2)", x.write(2, 1, 2), 1);
        DUE.is("read(3, 1) behind the write", x.read(3, 1), 1);
        DUE.is("abort(2)", x.abort(2), true);
        DUE.is("state(2)", x.state(2), 5);
        DUE.is("outcome(2) stays", x.outcome(2), 1);
        DUE.is("state(3)", x.state(3), 1);
        DUE.is("outcome(3)", x.outcome(3), 0);
        x.abort(1);
        x.abort(3);
        DUE.is("count(0), nothing was written", x.count(0), 0);
        DUE.is("stored(1)", x.stored(1), 0);
    }

    private static void abortIsRefused() {
        DUE.promise("6 abort, refused");
        LogStore x = new LogStore();
        DUE.is("abort(0)", x.abort(0), false);
        DUE.is("abort(1)", x.abort(1), false);
        DUE.is("abort(-7)", x.abort(-7), false);
        DUE.is("abort(MAX)", x.abort(Integer.MAX_VALUE), false);
        x.begin();
        x.write(1, 1, 1);
        x.commit(1);
        DUE.is("abort(1), committing", x.abort(1), false);
        DUE.is("state(1)", x.state(1), 3);
        x.force();
        DUE.is("abort(1), committed", x.abort(1), false);
        DUE.is("stored(1)", x.stored(1), 1);
        x.begin();
        x.abort(2);
        DUE.is("abort(2), aborted", x.abort(2), false);
        x.begin();
        x.write(3, 1, 3);
        x.crash(9);
        DUE.is("abort(3), in doubt", x.abort(3), false);
        DUE.is("state(3)", x.state(3), 6);
    }

    private static void upAndStateOverACrash() {
        DUE.promise("12 up, 13 state");
        LogStore x = new LogStore();
        for (int t = 1; t <= 4; t++) {
            x.begin();
        }
        x.write(1, 1, 1);
        x.commit(1);
        x.write(2, 2, 2);
        x.read(3, 2);
        x.abort(4);
        DUE.is("state(0)", x.state(0), 0);
        DUE.is("state(-1)", x.state(-1), 0);
        DUE.is("state(5)", x.state(5), 0);
        DUE.is("state(61)", x.state(61), 0);
        DUE.is("state(MAX)", x.state(Integer.MAX_VALUE), 0);
        DUE.is("state(MIN)", x.state(Integer.MIN_VALUE), 0);
        DUE.is("state(1)", x.state(1), 3);
        DUE.is("state(2)", x.state(2), 1);
        DUE.is("state(3)", x.state(3), 2);
        DUE.is("state(4)", x.state(4), 5);
        DUE.is("crash(2)", x.crash(2), 2);
        DUE.is("up()", x.up(), false);
        for (int t = 1; t <= 3; t++) {
            DUE.is("state(" + t + ")", x.state(t), 6);
        }
        DUE.is("state(4)", x.state(4), 5);
        DUE.is("restart(2)", x.restart(2), 2);
        DUE.is("up()", x.up(), false);
        DUE.is("state(1)", x.state(1), 6);
        DUE.is("restart(2)", x.restart(2), 1);
        DUE.is("up()", x.up(), true);
        DUE.is("state(1)", x.state(1), 4);
        DUE.is("state(2)", x.state(2), 5);
        DUE.is("state(3)", x.state(3), 5);
        DUE.is("state(4)", x.state(4), 5);
    }
}
