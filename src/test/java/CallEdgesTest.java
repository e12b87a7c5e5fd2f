/** The boundary cases in promises 1 to 11, of the calls that act: a method for each case. */
public final class CallEdgesTest {
    private static final Due DUE = new Due("CallEdgesTest");
    private static final int MIN = Integer.MIN_VALUE;
    private static final int MAX = Integer.MAX_VALUE;
    private static final String REQUEST_REFUSED =
        "-1 (refused) if there is no such active transaction or key.";
    private static final String CRASH = "Before the crash, the next k records of the log (or as "
        + "many as there are) become stable";
    private static final String CRASH_REFUSED = "Answers the number of records that the log has "
        + "then; -1 (refused) if k is less than 0 or there were eight crashes.";
    private static final String RESTART =
        "Makes up to n units of the restart, fewer if there are no more, and answers how many.";

    public static void main(String[] args) {
        newObject();
        beginWithFourLive();
        beginAfterSixty();
        readOfNoActiveTransaction();
        readOfNoKey();
        allAnswersOfRead();
        writeOfNoActiveTransaction();
        writeOfNoKey();
        allAnswersOfWrite();
        commitTillItIsStable();
        commitOfNoActiveOne();
        abortOfActiveAndWaiting();
        abortOfAnother();
        forceOfAnEmptyLog();
        forceWhileDown();
        twentyCheckpoints();
        twentyCheckpointsInTheLogNotEver();
        flushOfADirtyPage();
        flushOfAnotherPage();
        crashWithSoManyRecords();
        crashWithTheGreatestNumber();
        crashWhileDown();
        crashWithANegativeNumber();
        eightCrashes();
        restartByOneAndByAHundred();
        restartOfMoreThanAHundredUnits();
        restartWithAWrongNumber();
        theLastOfAllCalls();
        DUE.end();
    }

    private static void newObject() {
        DUE.sentence(1, "All places free, an empty log and pool, no transactions; up.");
        LogStore x = new LogStore();
        DUE.is("up()", x.up(), true);
        DUE.is("after(-1)", x.after(-1), -1);
        for (int what = 0; what < 4; what++) {
            DUE.is("count(" + what + ")", x.count(what), 0);
        }
        for (int page = 0; page < 6; page++) {
            DUE.is("page(" + page + ", 0)", x.page(page, 0), -1);
        }
        for (int t = 0; t <= 61; t++) {
            DUE.is("state(" + t + ")", x.state(t), 0);
        }
        DUE.is("restart(1)", x.restart(1), -1);
        DUE.is("begin()", x.begin(), 1);
    }

    private static void beginWithFourLive() {
        DUE.sentence(2, "-1 (refused) if four are live or 60 have begun.");
        LogStore x = new LogStore();
        for (int t = 1; t <= 4; t++) {
            DUE.is("begin()", x.begin(), t);
            DUE.is("state(" + t + ")", x.state(t), 1);
        }
        DUE.is("begin()", x.begin(), -1);
        x.abort(2);
        DUE.is("begin()", x.begin(), 5);
        DUE.is("begin()", x.begin(), -1);
        DUE.is("state(6)", x.state(6), 0);
    }

    private static void beginAfterSixty() {
        DUE.sentence(2, "-1 (refused) if four are live or 60 have begun.");
        LogStore x = new LogStore();
        for (int t = 1; t <= 60; t++) {
            DUE.is("begin()", x.begin(), t);
            x.commit(t);
            x.force();
        }
        DUE.is("begin()", x.begin(), -1);
        x.crash(0);
        x.restart(1);
        DUE.is("begin() after a crash", x.begin(), -1);
    }

    /** Transactions 1 to 4 are committing, waiting, aborted and committed. */
    private static LogStore withoutActiveOnes() {
        LogStore x = Stores.withTransactions(4);
        x.write(1, 1, 1);
        x.read(2, 1);
        x.abort(3);
        x.commit(4);
        x.force();
        x.commit(1);
        return x;
    }

    private static void readOfNoActiveTransaction() {
        DUE.sentence(3, REQUEST_REFUSED);
        LogStore x = withoutActiveOnes();
        for (int t : new int[] {1, 2, 3, 4, 0, -1, 5, 60, 61, MIN, MAX}) {
            DUE.is("read(" + t + ", 9)", x.read(t, 9), -1);
        }
        x.begin();
        DUE.is("read(5, 9)", x.read(5, 9), 0);
        x.crash(0);
        DUE.is("read(5, 9), in doubt", x.read(5, 9), -1);
    }

    private static void readOfNoKey() {
        DUE.sentence(3, REQUEST_REFUSED);
        LogStore x = Stores.withTransactions(1);
        for (int key : new int[] {-1, 100, 101, MIN, MAX}) {
            DUE.is("read(1, " + key + ")", x.read(1, key), -1);
        }
        DUE.is("read(1, 0)", x.read(1, 0), 0);
        DUE.is("read(1, 99)", x.read(1, 99), 0);
    }

    private static void writeOfNoActiveTransaction() {
        DUE.sentence(4, REQUEST_REFUSED);
        LogStore x = withoutActiveOnes();
        for (int t : new int[] {1, 2, 3, 4, 0, -1, 5, 60, 61, MIN, MAX}) {
            DUE.is("write(" + t + ", 9, 9)", x.write(t, 9, 9), -1);
        }
        DUE.is("place(9)", x.place(9), -1);
        x.begin();
        DUE.is("write(5, 9, 9)", x.write(5, 9, 9), 0);
        x.crash(0);
        DUE.is("write(5, 9, 9), in doubt", x.write(5, 9, 9), -1);
    }

    private static void writeOfNoKey() {
        DUE.sentence(4, REQUEST_REFUSED);
        LogStore x = Stores.withTransactions(1);
        for (int key : new int[] {-1, 100, 101, MIN, MAX}) {
            DUE.is("write(1, " + key + ", 1)", x.write(1, key, 1), -1);
        }
        DUE.is("count(0)", x.count(0), 0);
        DUE.is("write(1, 0, 1)", x.write(1, 0, 1), 0);
        DUE.is("write(1, 99, 1)", x.write(1, 99, 1), 0);
    }

    private static void allAnswersOfRead() {
        DUE.sentence(3, "0 it was read, 1 it waits, 2 it was a victim");
        LogStore x = Stores.withTransactions(2);
        DUE.is("read(1, 1)", x.read(1, 1), 0);
        DUE.is("write(1, 2, 2)", x.write(1, 2, 2), 0);
        DUE.is("write(2, 3, 3)", x.write(2, 3, 3), 0);
        DUE.is("read(1, 3)", x.read(1, 3), 1);
        DUE.is("read(2, 2)", x.read(2, 2), 2);
        DUE.is("state(2)", x.state(2), 5);
    }

    private static void allAnswersOfWrite() {
        DUE.sentence(4, "0 it was written, 1 it waits, 2 it was a victim, 3 there was no room");
        LogStore x = Stores.withKeys(23);
        x.begin();
        DUE.is("write(2, 50, 2)", x.write(2, 50, 2), 0);
        DUE.is("write(2, 51, 2)", x.write(2, 51, 2), 3);
        DUE.is("write(1, 50, 1)", x.write(1, 50, 1), 1);
        DUE.is("write(2, 0, 2)", x.write(2, 0, 2), 2);
        DUE.is("state(1)", x.state(1), 1);
        DUE.is("stored(50)", x.stored(50), 1);
    }

    private static void commitTillItIsStable() {
        DUE.sentence(5, "Puts a COMMIT of an active transaction into the log, it is committing "
            + "(till that is stable): true.");
        LogStore x = Stores.withKeys(1);
        x.begin();
        DUE.is("commit(1)", x.commit(1), true);
        DUE.is("count(0)", x.count(0), 2);
        DUE.is("flush(0)", x.flush(0), true);
        DUE.is("count(1), one too few", x.count(1), 1);
        DUE.is("state(1)", x.state(1), 3);
        DUE.is("write(2, 5, 5)", x.write(2, 5, 5), 0);
        DUE.is("flush(0)", x.flush(0), true);
        DUE.is("state(1)", x.state(1), 4);
        x.commit(2);
        x.force();
        DUE.is("count(1), just enough", x.count(1), 4);
        DUE.is("state(2)", x.state(2), 4);
    }

    private static void commitOfNoActiveOne() {
        DUE.sentence(5, "False (refused) if there is no such active one.");
        LogStore x = withoutActiveOnes();
        for (int t : new int[] {1, 2, 3, 4, 0, -1, 5, 60, 61, MIN, MAX}) {
            DUE.is("commit(" + t + ")", x.commit(t), false);
        }
        DUE.is("count(0)", x.count(0), 3);
        x.begin();
        x.crash(0);
        DUE.is("commit(5), in doubt", x.commit(5), false);
    }

    private static void abortOfActiveAndWaiting() {
        DUE.sentence(6, "Aborts a transaction that is active or waiting: true.");
        LogStore x = Stores.withTransactions(2);
        x.write(1, 1, 1);
        x.read(2, 1);
        DUE.is("abort(2), waiting", x.abort(2), true);
        DUE.is("abort(1), active", x.abort(1), true);
        DUE.is("state(1)", x.state(1), 5);
        DUE.is("state(2)", x.state(2), 5);
    }

    private static void abortOfAnother() {
        DUE.sentence(6, "False (refused) if there is no such one.");
        LogStore x = withoutActiveOnes();
        for (int t : new int[] {1, 3, 4, 0, -1, 5, 60, 61, MIN, MAX}) {
            DUE.is("abort(" + t + ")", x.abort(t), false);
        }
        DUE.is("stored(1)", x.stored(1), 1);
        x.crash(0);
        DUE.is("abort(2), in doubt", x.abort(2), false);
        DUE.is("state(2)", x.state(2), 6);
    }

    private static void forceOfAnEmptyLog() {
        DUE.sentence(7, "The whole log is stable: true");
        LogStore x = new LogStore();
        DUE.is("force()", x.force(), true);
        DUE.is("count(1)", x.count(1), 0);
        x.checkpoint();
        DUE.is("force()", x.force(), true);
        DUE.is("count(1)", x.count(1), 1);
        DUE.is("force(), stable already", x.force(), true);
        DUE.is("count(1)", x.count(1), 1);
    }

    private static void forceWhileDown() {
        DUE.sentence(7, "false (refused) while the store is down.");
        LogStore x = Stores.withKeys(1);
        x.crash(1);
        DUE.is("force()", x.force(), false);
        DUE.is("restart(2)", x.restart(2), 2);
        DUE.is("force() in the restart", x.force(), false);
        DUE.is("restart(1)", x.restart(1), 1);
        DUE.is("count(1), the CLR is not stable", x.count(1), 1);
        DUE.is("force()", x.force(), true);
        DUE.is("count(1)", x.count(1), 2);
    }

    private static void twentyCheckpoints() {
        DUE.sentence(8, "-1 (refused) if 20 are in the log.");
        LogStore x = Stores.withKeys(1);
        for (int i = 1; i <= 20; i++) {
            DUE.is("checkpoint()", x.checkpoint(), i + 1);
        }
        DUE.is("checkpoint()", x.checkpoint(), -1);
        DUE.is("count(0)", x.count(0), 21);
        x.force();
        DUE.is("checkpoint(), all of them stable", x.checkpoint(), -1);
    }

    private static void twentyCheckpointsInTheLogNotEver() {
        DUE.sentence(8, "-1 (refused) if 20 are in the log.");
        LogStore x = new LogStore();
        for (int i = 1; i <= 20; i++) {
            x.checkpoint();
        }
        DUE.is("crash(19)", x.crash(19), 19);
        x.restart(1);
        DUE.is("checkpoint()", x.checkpoint(), 20);
        DUE.is("checkpoint()", x.checkpoint(), -1);
        x.begin();
        x.commit(1);
        DUE.is("crash(1), the COMMIT alone is lost", x.crash(1), 20);
        x.restart(1);
        DUE.is("checkpoint()", x.checkpoint(), -1);
    }

    private static void flushOfADirtyPage() {
        DUE.sentence(9, "Writes a page that is in the pool and dirty: true.");
        LogStore x = Stores.withKeys(24);
        for (int page = 3; page <= 5; page++) {
            DUE.is("flush(" + page + ")", x.flush(page), true);
            DUE.is("page(" + page + ", 2)", x.page(page, 2), 4 * page + 4);
        }
        x.read(1, 0);
        x.write(1, 0, 1);
        DUE.is("flush(0)", x.flush(0), true);
        DUE.is("page(0, 2)", x.page(0, 2), 25);
    }

    private static void flushOfAnotherPage() {
        DUE.sentence(9, "False (refused) for another one.");
        LogStore x = Stores.withKeys(13);
        DUE.is("flush(0), not in the pool", x.flush(0), false);
        DUE.is("flush(5), never in the pool", x.flush(5), false);
        DUE.is("flush(1)", x.flush(1), true);
        DUE.is("flush(1), clean", x.flush(1), false);
        for (int page : new int[] {-1, 6, MIN, MAX}) {
            DUE.is("flush(" + page + ")", x.flush(page), false);
        }
        DUE.is("count(3)", x.count(3), 2);
        x.crash(99);
        DUE.is("flush(2), down", x.flush(2), false);
        x.restart(99);
        DUE.is("flush(0), made dirty by the restart", x.flush(0), true);
    }

    private static void crashWithSoManyRecords() {
        DUE.sentence(10, CRASH);
        int[] asked = {0, 1, 2, 3, 4, 5};
        int[] left = {2, 3, 4, 5, 5, 5};
        for (int i = 0; i < asked.length; i++) {
            LogStore x = Stores.withKeys(2);
            x.force();
            x.write(1, 0, 1);
            x.write(1, 0, 2);
            x.write(1, 0, 3);
            DUE.is("crash(" + asked[i] + ")", x.crash(asked[i]), left[i]);
            DUE.is("count(0)", x.count(0), left[i]);
            DUE.is("count(1)", x.count(1), left[i]);
        }
    }

    private static void crashWithTheGreatestNumber() {
        DUE.sentence(10, CRASH);
        LogStore x = Stores.withKeys(2);
        x.force();
        x.write(1, 0, 1);
        DUE.is("crash(MAX)", x.crash(MAX), 3);
        x = Stores.withKeys(2);
        x.force();
        DUE.is("crash(MAX), all is stable", x.crash(MAX), 2);
        DUE.is("new LogStore().crash(MAX)", new LogStore().crash(MAX), 0);
    }

    private static void crashWhileDown() {
        DUE.sentence(10, "then the crash, also if the store is down (a restart that was under way "
            + "begins anew; what it put into the log and is not stable is lost).");
        LogStore x = Stores.withKeys(3);
        x.crash(3);
        DUE.is("crash(0), before the restart", x.crash(0), 3);
        DUE.is("restart(6), two CLRs", x.restart(6), 6);
        DUE.is("count(0)", x.count(0), 5);
        DUE.is("crash(1), one of them stays", x.crash(1), 4);
        DUE.is("up()", x.up(), false);
        DUE.is("restart(100), 1 and 4 and 2", x.restart(100), 7);
        DUE.is("crash(0), the others are lost", x.crash(0), 4);
        DUE.is("restart(100)", x.restart(100), 7);
    }

    private static void crashWithANegativeNumber() {
        DUE.sentence(10, CRASH_REFUSED);
        LogStore x = Stores.withKeys(1);
        DUE.is("crash(-1)", x.crash(-1), -1);
        DUE.is("crash(MIN)", x.crash(MIN), -1);
        DUE.is("up()", x.up(), true);
        DUE.is("state(1)", x.state(1), 1);
        x.crash(1);
        x.restart(2);
        DUE.is("crash(-1), down", x.crash(-1), -1);
        DUE.is("restart(9), the restart goes on", x.restart(9), 1);
    }

    private static void eightCrashes() {
        DUE.sentence(10, CRASH_REFUSED);
        LogStore x = Stores.withKeys(1);
        for (int i = 1; i <= 8; i++) {
            DUE.is("crash(-1), which does not count", x.crash(-1), -1);
            DUE.is("crash(1) number " + i, x.crash(1), i < 8 ? 1 : 2);
            if (i >= 7) {
                DUE.is("restart(100)", x.restart(100), 3);
            }
        }
        DUE.is("crash(1)", x.crash(1), -1);
        DUE.is("up()", x.up(), true);
        DUE.is("begin()", x.begin(), 2);
        DUE.is("state(2)", x.state(2), 1);
        x = new LogStore();
        for (int i = 1; i <= 8; i++) {
            x.crash(0);
        }
        DUE.is("crash(0), down", x.crash(0), -1);
        DUE.is("restart(1)", x.restart(1), 1);
    }

    private static void restartByOneAndByAHundred() {
        DUE.sentence(11, RESTART);
        LogStore x = Stores.withKeys(2);
        x.crash(2);
        DUE.is("restart(1)", x.restart(1), 1);
        DUE.is("restart(4), just as many as there are", x.restart(4), 4);
        DUE.is("up()", x.up(), true);
        x.crash(0);
        DUE.is("restart(4), one too few", x.restart(4), 4);
        DUE.is("up()", x.up(), false);
        DUE.is("restart(2), one too many", x.restart(2), 1);
        DUE.is("up()", x.up(), true);
        x.crash(0);
        DUE.is("restart(100)", x.restart(100), 5);
        DUE.is("up()", x.up(), true);
    }

    private static LogStore withSixtyUpdates() {
        LogStore x = Stores.withTransactions(1);
        for (int i = 1; i <= 60; i++) {
            x.write(1, 1, i);
        }
        return x;
    }

    private static void restartOfMoreThanAHundredUnits() {
        DUE.sentence(11, RESTART);
        LogStore x = withSixtyUpdates();
        x.crash(60);
        DUE.is("restart(100), of 121", x.restart(100), 100);
        DUE.is("up()", x.up(), false);
        DUE.is("count(0)", x.count(0), 99);
        DUE.is("stored(1)", x.stored(1), 21);
        DUE.is("restart(100)", x.restart(100), 21);
        DUE.is("up()", x.up(), true);
        DUE.is("place(1)", x.place(1), -1);
    }

    private static void restartWithAWrongNumber() {
        DUE.sentence(11, "-1 (refused) if the store is up or n is not 1 .. 100.");
        LogStore x = Stores.withKeys(1);
        for (int n : new int[] {1, 100, 0, 101}) {
            DUE.is("restart(" + n + ") while up", x.restart(n), -1);
        }
        x.crash(1);
        for (int n : new int[] {0, -1, 101, MIN, MAX}) {
            DUE.is("restart(" + n + ")", x.restart(n), -1);
            DUE.is("up()", x.up(), false);
        }
        DUE.is("restart(100)", x.restart(100), 3);
        DUE.is("restart(100) while up again", x.restart(100), -1);
    }

    /** Every read puts a page out and brings one in; the count is the 512th call. */
    private static void theLastOfAllCalls() {
        DUE.sentence("An object is used for at most 512 calls after it has been made");
        LogStore x = Stores.withKeys(13);
        for (int call = 15; call <= 511; call++) {
            DUE.is("read, call " + call, x.read(1, (call - 15) % 4 * 4), 0);
        }
        DUE.is("count(2)", x.count(2), 4 + 497);
        x = Stores.withTransactions(1);
        for (int call = 2; call <= 510; call++) {
            DUE.is("write, call " + call, x.write(1, 1, call), call <= 61 ? 0 : 3);
        }
        DUE.is("crash(100)", x.crash(100), 60);
        DUE.is("restart(100)", x.restart(100), 100);
    }
}
