/** Promises 3, 4, 14 and 15: read, write, outcome, value; with the locks behind them. */
public final class RequestsTest {
    private static final Due DUE = new Due("RequestsTest");

    public static void main(String[] args) {
        readsAndValues();
        requestsAreRefused();
        writesTakePlaces();
        sharedLocks();
        ownLocks();
        upgradeWaitsForOthersOnly();
        upgradeGoesPastEarlierRequests();
        laterRequestsStayBehind();
        firstMadeIsGrantedFirst();
        victimOfTwo();
        victimOfTwoUpgrades();
        victimByARequestThatIsOnlyEarlier();
        victimOfFour();
        noVictimWithoutACircle();
        noRoomForKeys();
        noRoomForUpdates();
        noRoomAfterAWait();
        commitByAnEvictionSettles();
        locksEndWithTheirTransaction();
        DUE.end();
    }

    private static void readsAndValues() {
        DUE.promise("3 read, 14 outcome, 15 value");
        LogStore x = Stores.withTransactions(2);
        DUE.is("outcome(1), none yet", x.outcome(1), -1);
        DUE.is("value(1), none yet", x.value(1), 0);
        DUE.is("read(1, 0) without a place", x.read(1, 0), 0);
        DUE.is("value(1)", x.value(1), 0);
        DUE.is("outcome(1)", x.outcome(1), 0);
        DUE.is("count(2), nothing was fetched", x.count(2), 0);
        DUE.is("write(1, 99, MIN)", x.write(1, 99, Integer.MIN_VALUE), 0);
        DUE.is("value(1), not read yet", x.value(1), 0);
        DUE.is("read(1, 99)", x.read(1, 99), 0);
        DUE.is("value(1)", x.value(1), Integer.MIN_VALUE);
        DUE.is("write(1, 99, 5)", x.write(1, 99, 5), 0);
        DUE.is("value(1) of the latest read", x.value(1), Integer.MIN_VALUE);
        DUE.is("read(1, 7) without a place", x.read(1, 7), 0);
        DUE.is("value(1)", x.value(1), 0);
        DUE.is("read(1, 99)", x.read(1, 99), 0);
        DUE.is("value(1)", x.value(1), 5);
        DUE.is("value(2)", x.value(2), 0);
        DUE.is("outcome(2)", x.outcome(2), -1);
        DUE.is("read(2, 99)", x.read(2, 99), 1);
        DUE.is("outcome(2)", x.outcome(2), 1);
        DUE.is("value(2), not done yet", x.value(2), 0);
        x.abort(1);
        DUE.is("outcome(2)", x.outcome(2), 0);
        DUE.is("value(2), the place is free again", x.value(2), 0);
        DUE.is("outcome(1) stays", x.outcome(1), 0);
        DUE.is("value(1) stays", x.value(1), 5);
        x.crash(0);
        DUE.is("outcome(1) while down", x.outcome(1), 0);
        DUE.is("value(1) while down", x.value(1), 5);
        for (int t : new int[] {0, 3, -1, 61, Integer.MIN_VALUE, Integer.MAX_VALUE}) {
            DUE.is("outcome(" + t + ")", x.outcome(t), -1);
            DUE.is("value(" + t + ")", x.value(t), 0);
        }
    }

    private static void requestsAreRefused() {
        DUE.promise("3 read and 4 write, refused");
        LogStore x = Stores.withTransactions(3);
        for (int t : new int[] {0, -1, 4, 60, 61, Integer.MIN_VALUE, Integer.MAX_VALUE}) {
            DUE.is("read(" + t + ", 1)", x.read(t, 1), -1);
            DUE.is("write(" + t + ", 1, 1)", x.write(t, 1, 1), -1);
        }
        for (int key : new int[] {-1, 100, Integer.MIN_VALUE, Integer.MAX_VALUE}) {
            DUE.is("read(1, " + key + ")", x.read(1, key), -1);
            DUE.is("write(1, " + key + ", 1)", x.write(1, key, 1), -1);
        }
        DUE.is("outcome(1), refused ones do not count", x.outcome(1), -1);
        DUE.is("write(1, 1, 1)", x.write(1, 1, 1), 0);
        DUE.is("write(2, 1, 2)", x.write(2, 1, 2), 1);
        DUE.is("read(2, 5), waiting", x.read(2, 5), -1);
        DUE.is("write(2, 5, 5), waiting", x.write(2, 5, 5), -1);
        DUE.is("write(3, 5, 3), no lock was taken", x.write(3, 5, 3), 0);
        x.commit(1);
        DUE.is("read(1, 1), committing", x.read(1, 1), -1);
        DUE.is("write(1, 1, 1), committing", x.write(1, 1, 1), -1);
        DUE.is("outcome(1)", x.outcome(1), 0);
        x.force();
        DUE.is("read(1, 1), committed", x.read(1, 1), -1);
        DUE.is("write(1, 1, 1), committed", x.write(1, 1, 1), -1);
        DUE.is("stored(1), as asked while it waited", x.stored(1), 2);
        x.abort(3);
        DUE.is("read(3, 1), aborted", x.read(3, 1), -1);
        DUE.is("write(3, 1, 1), aborted", x.write(3, 1, 1), -1);
        x.crash(0);
        DUE.is("read(2, 1), down", x.read(2, 1), -1);
        DUE.is("write(2, 1, 1), down", x.write(2, 1, 1), -1);
        DUE.is("outcome(2)", x.outcome(2), 0);
    }

    private static void writesTakePlaces() {
        DUE.promise("4 write");
        LogStore x = Stores.withTransactions(1);
        DUE.is("write(1, 50, 1)", x.write(1, 50, 1), 0);
        DUE.is("write(1, 0, 2)", x.write(1, 0, 2), 0);
        DUE.is("write(1, 99, -3)", x.write(1, 99, -3), 0);
        DUE.is("outcome(1)", x.outcome(1), 0);
        DUE.is("place(50)", x.place(50), 0);
        DUE.is("place(0)", x.place(0), 1);
        DUE.is("place(99)", x.place(99), 2);
        DUE.is("write(1, 0, 2), the same value", x.write(1, 0, 2), 0);
        DUE.is("count(0), it is put into the log, too", x.count(0), 4);
        DUE.is("place(0)", x.place(0), 1);
        DUE.is("stored(99)", x.stored(99), -3);
        DUE.is("page(0, 1)", x.page(0, 1), 4);
        DUE.is("page(0, 0), the first one's", x.page(0, 0), 1);
        DUE.is("count(2)", x.count(2), 1);
    }

    private static void sharedLocks() {
        DUE.promise("3 read, shared locks");
        LogStore x = Stores.withTransactions(4);
        DUE.is("read(1, 1)", x.read(1, 1), 0);
        DUE.is("read(2, 1)", x.read(2, 1), 0);
        DUE.is("write(3, 1, 3)", x.write(3, 1, 3), 1);
        DUE.is("write(4, 2, 4), another key", x.write(4, 2, 4), 0);
        x.abort(1);
        DUE.is("state(3), one reader is left", x.state(3), 2);
        x.commit(2);
        DUE.is("state(3), a committing one holds its locks", x.state(3), 2);
        x.force();
        DUE.is("state(3)", x.state(3), 1);
        DUE.is("outcome(3)", x.outcome(3), 0);
        DUE.is("stored(1)", x.stored(1), 3);
        DUE.is("value(3), a write gives none", x.value(3), 0);
    }

    private static void ownLocks() {
        DUE.promise("4 write, own locks");
        LogStore x = Stores.withTransactions(2);
        DUE.is("read(1, 1)", x.read(1, 1), 0);
        DUE.is("read(1, 1) again", x.read(1, 1), 0);
        DUE.is("write(1, 1, 1), alone", x.write(1, 1, 1), 0);
        DUE.is("read(1, 1), the lock stays exclusive", x.read(1, 1), 0);
        DUE.is("read(2, 1)", x.read(2, 1), 1);
        DUE.is("write(1, 1, 2), past the one that waits", x.write(1, 1, 2), 0);
        DUE.is("read(1, 1), likewise", x.read(1, 1), 0);
        DUE.is("state(2)", x.state(2), 2);
    }

    private static void upgradeWaitsForOthersOnly() {
        DUE.promise("4 write after a read");
        LogStore x = Stores.withTransactions(3);
        x.read(1, 1);
        x.read(2, 1);
        DUE.is("write(1, 1, 1), another reads", x.write(1, 1, 1), 1);
        DUE.is("read(2, 1), held already", x.read(2, 1), 0);
        DUE.is("read(3, 1), behind the write", x.read(3, 1), 1);
        DUE.is("commit(2)", x.commit(2), true);
        x.force();
        DUE.is("state(1)", x.state(1), 1);
        DUE.is("stored(1)", x.stored(1), 1);
        DUE.is("state(3)", x.state(3), 2);
    }

    private static void upgradeGoesPastEarlierRequests() {
        DUE.promise("4 write after a read, past requests");
        LogStore x = Stores.withTransactions(3);
        x.read(1, 1);
        DUE.is("write(2, 1, 2)", x.write(2, 1, 2), 1);
        DUE.is("write(1, 1, 1), an earlier request waits", x.write(1, 1, 1), 0);
        x.commit(1);
        x.force();
        DUE.is("stored(1)", x.stored(1), 2);
        DUE.is("state(2)", x.state(2), 1);
    }

    private static void laterRequestsStayBehind() {
        DUE.promise("3 read behind an earlier request");
        LogStore x = Stores.withTransactions(4);
        x.read(1, 1);
        DUE.is("write(2, 1, 2)", x.write(2, 1, 2), 1);
        DUE.is("read(3, 1), no conflict but behind", x.read(3, 1), 1);
        DUE.is("read(4, 2), another key", x.read(4, 2), 0);
        DUE.is("read(4, 1)", x.read(4, 1), 1);
        x.abort(1);
        DUE.is("state(2)", x.state(2), 1);
        DUE.is("state(3)", x.state(3), 2);
        DUE.is("state(4)", x.state(4), 2);
        x.commit(2);
        x.force();
        DUE.is("state(3)", x.state(3), 1);
        DUE.is("state(4)", x.state(4), 1);
        DUE.is("value(3)", x.value(3), 2);
        DUE.is("value(4)", x.value(4), 2);
    }

    private static void firstMadeIsGrantedFirst() {
        DUE.promise("settling, the first made first");
        LogStore x = Stores.withTransactions(4);
        x.write(1, 1, 1);
        x.write(1, 2, 1);
        x.write(1, 3, 1);
        DUE.is("write(4, 2, 4)", x.write(4, 2, 4), 1);
        DUE.is("write(2, 3, 2)", x.write(2, 3, 2), 1);
        DUE.is("write(3, 1, 3)", x.write(3, 1, 3), 1);
        x.abort(1);
        DUE.is("place(2), asked for first", x.place(2), 0);
        DUE.is("place(3), asked for next", x.place(3), 1);
        DUE.is("place(1), asked for last", x.place(1), 2);
    }

    private static void victimOfTwo() {
        DUE.promise("4 write, victim");
        LogStore x = Stores.withTransactions(2);
        x.write(1, 1, 1);
        x.write(2, 2, 2);
        DUE.is("read(1, 2)", x.read(1, 2), 1);
        DUE.is("write(2, 1, 3)", x.write(2, 1, 3), 2);
        DUE.is("state(2)", x.state(2), 5);
        DUE.is("outcome(2)", x.outcome(2), 2);
        DUE.is("place(2), taken back", x.place(2), -1);
        DUE.is("stored(1)", x.stored(1), 1);
        DUE.is("state(1)", x.state(1), 1);
        DUE.is("outcome(1)", x.outcome(1), 0);
        DUE.is("value(1)", x.value(1), 0);
        DUE.is("count(0)", x.count(0), 3);
        DUE.promise("3 read, victim");
        x = Stores.withTransactions(2);
        x.write(1, 1, 1);
        x.write(2, 2, 2);
        DUE.is("write(2, 1, 5)", x.write(2, 1, 5), 1);
        DUE.is("read(1, 2)", x.read(1, 2), 2);
        DUE.is("state(1)", x.state(1), 5);
        DUE.is("state(2)", x.state(2), 1);
        DUE.is("stored(1)", x.stored(1), 5);
    }

    private static void victimOfTwoUpgrades() {
        DUE.promise("4 write, two readers that write");
        LogStore x = Stores.withTransactions(2);
        x.read(1, 1);
        x.read(2, 1);
        DUE.is("write(2, 1, 2)", x.write(2, 1, 2), 1);
        DUE.is("write(1, 1, 1)", x.write(1, 1, 1), 2);
        DUE.is("state(1)", x.state(1), 5);
        DUE.is("state(2)", x.state(2), 1);
        DUE.is("stored(1)", x.stored(1), 2);
    }

    private static void victimByARequestThatIsOnlyEarlier() {
        DUE.promise("3 read, victim by waiting for an earlier request");
        LogStore x = Stores.withTransactions(3);
        x.read(1, 1);
        x.write(3, 2, 3);
        DUE.is("write(2, 2, 2) waits for 3", x.write(2, 2, 2), 1);
        x.abort(2);
        x.begin();
        DUE.is("write(4, 1, 4) waits for 1", x.write(4, 1, 4), 1);
        DUE.is("read(1, 2) waits for 3", x.read(1, 2), 1);
        DUE.is("read(3, 1) waits for 4 alone, 4 for 1, 1 for 3", x.read(3, 1), 2);
        DUE.is("state(3)", x.state(3), 5);
        DUE.is("state(1)", x.state(1), 1);
        DUE.is("state(4)", x.state(4), 2);
    }

    private static void victimOfFour() {
        DUE.promise("4 write, victim in a circle of four");
        LogStore x = Stores.withTransactions(4);
        for (int t = 1; t <= 4; t++) {
            x.write(t, t, t);
        }
        for (int t = 1; t <= 3; t++) {
            DUE.is("write(" + t + ", " + (t + 1) + ", 9)", x.write(t, t + 1, 9), 1);
        }
        DUE.is("write(4, 1, 9)", x.write(4, 1, 9), 2);
        DUE.is("state(3)", x.state(3), 1);
        DUE.is("state(2)", x.state(2), 2);
        DUE.is("stored(4)", x.stored(4), 9);
        x.abort(3);
        DUE.is("stored(3)", x.stored(3), 9);
        DUE.is("place(4)", x.place(4), -1);
        DUE.is("state(2)", x.state(2), 1);
    }

    private static void noVictimWithoutACircle() {
        DUE.promise("4 write, no circle through it");
        LogStore x = Stores.withTransactions(4);
        x.write(1, 1, 1);
        x.write(2, 2, 2);
        DUE.is("write(2, 1, 2)", x.write(2, 1, 2), 1);
        DUE.is("write(3, 2, 3)", x.write(3, 2, 3), 1);
        DUE.is("write(4, 2, 4)", x.write(4, 2, 4), 1);
        x.commit(1);
        x.force();
        DUE.is("state(2)", x.state(2), 1);
        DUE.is("write(2, 2, 5), its own key", x.write(2, 2, 5), 0);
    }

    private static void noRoomForKeys() {
        DUE.promise("4 write, no room for a 25th key");
        LogStore x = Stores.withTransactions(2);
        for (int key = 0; key < 24; key++) {
            DUE.is("write(1, " + key + ", 1)", x.write(1, key, 1), 0);
            DUE.is("place(" + key + ")", x.place(key), key);
        }
        int cameIn = x.count(2);
        DUE.is("write(1, 24, 1)", x.write(1, 24, 1), 3);
        DUE.is("outcome(1)", x.outcome(1), 3);
        DUE.is("state(1)", x.state(1), 1);
        DUE.is("count(0), nothing was done", x.count(0), 24);
        DUE.is("count(2), nothing was fetched", x.count(2), cameIn);
        DUE.is("read(2, 24), the lock is held", x.read(2, 24), 1);
        DUE.is("write(1, 23, 2), a key that has a place", x.write(1, 23, 2), 0);
        DUE.is("outcome(1)", x.outcome(1), 0);
        DUE.is("stored(24)", x.stored(24), 0);
        x.abort(1);
        DUE.is("state(2)", x.state(2), 1);
        DUE.is("after(-1)", x.after(-1), -1);
        DUE.is("write(2, 24, 3), places are free again", x.write(2, 24, 3), 0);
        DUE.is("place(24)", x.place(24), 0);
    }

    private static void noRoomForUpdates() {
        DUE.promise("4 write, no room for a 61st UPDATE");
        LogStore x = Stores.withTransactions(2);
        for (int i = 1; i <= 60; i++) {
            DUE.is("write(1, 1, " + i + ")", x.write(1, 1, i), 0);
        }
        DUE.is("write(1, 1, 61)", x.write(1, 1, 61), 3);
        DUE.is("write(1, 2, 61)", x.write(1, 2, 61), 3);
        DUE.is("stored(1)", x.stored(1), 60);
        DUE.is("read(2, 2), the lock is held", x.read(2, 2), 1);
        DUE.is("abort(1), CLRs have room", x.abort(1), true);
        DUE.is("count(0)", x.count(0), 120);
        DUE.is("write(2, 3, 1), UPDATEs that were taken back count", x.write(2, 3, 1), 3);
        DUE.is("crash(40)", x.crash(40), 40);
        DUE.is("restart(100)", x.restart(100), 81);
        x.begin();
        for (int i = 1; i <= 20; i++) {
            DUE.is("write(3, 1, " + i + "), those that were lost do not count",
                    x.write(3, 1, i), 0);
        }
        DUE.is("write(3, 1, 21)", x.write(3, 1, 21), 3);
    }

    private static void noRoomAfterAWait() {
        DUE.promise("14 outcome, no room after a wait");
        LogStore x = Stores.withTransactions(3);
        for (int key = 0; key < 24; key++) {
            x.write(1, key, 1);
        }
        x.read(2, 30);
        DUE.is("write(3, 30, 3)", x.write(3, 30, 3), 1);
        x.commit(1);
        x.force();
        DUE.is("outcome(3)", x.outcome(3), 1);
        x.abort(2);
        DUE.is("outcome(3)", x.outcome(3), 3);
        DUE.is("state(3)", x.state(3), 1);
        DUE.is("place(30)", x.place(30), -1);
    }

    /** A write that is granted puts a page out; that makes a COMMIT stable, which frees a lock. */
    private static void commitByAnEvictionSettles() {
        DUE.promise("settling, a page that leaves makes a COMMIT stable");
        LogStore x = Stores.withTransactions(4);
        for (int key = 0; key < 12; key++) {
            x.write(1, key, 1);
        }
        x.commit(1);
        x.force();
        x.write(2, 50, 2);
        x.write(2, 51, 2);
        x.commit(2);
        DUE.is("count(1), eviction wrote page 0, which was stable", x.count(1), 13);
        DUE.is("read(3, 50)", x.read(3, 50), 1);
        DUE.is("write(4, 52, 4) in page 3", x.write(4, 52, 4), 0);
        DUE.is("page(3, 1), beyond the COMMIT", x.page(3, 1), 17);
        DUE.is("state(2)", x.state(2), 3);
        DUE.is("read(4, 0)", x.read(4, 0), 0);
        DUE.is("read(4, 4)", x.read(4, 4), 0);
        DUE.is("state(2)", x.state(2), 3);
        DUE.is("read(4, 8) puts page 3 out", x.read(4, 8), 0);
        DUE.is("count(1)", x.count(1), 17);
        DUE.is("state(2)", x.state(2), 4);
        DUE.is("state(3)", x.state(3), 1);
        DUE.is("value(3)", x.value(3), 2);
        DUE.is("page(3, 0), fetched again for 3", x.page(3, 0), 0);
        DUE.is("page(0, 0)", x.page(0, 0), -1);
    }

    private static void locksEndWithTheirTransaction() {
        DUE.promise("6 abort, locks are gone for those that begin later");
        LogStore x = Stores.withTransactions(1);
        x.write(1, 1, 1);
        x.abort(1);
        x.begin();
        x.begin();
        DUE.is("write(3, 1, 3)", x.write(3, 1, 3), 0);
        DUE.is("write(2, 1, 2)", x.write(2, 1, 2), 1);
        DUE.promise("5 commit, likewise");
        x = Stores.withTransactions(1);
        x.write(1, 1, 1);
        x.read(1, 2);
        x.commit(1);
        x.force();
        x.begin();
        x.begin();
        DUE.is("write(3, 1, 3)", x.write(3, 1, 3), 0);
        DUE.is("write(3, 2, 3)", x.write(3, 2, 3), 0);
        DUE.is("read(2, 2)", x.read(2, 2), 1);
        DUE.promise("10 crash, likewise");
        x.crash(0);
        x.restart(100);
        for (int t = 4; t <= 7; t++) {
            DUE.is("begin()", x.begin(), t);
            DUE.is("read(" + t + ", 1)", x.read(t, 1), 0);
        }
        DUE.is("write(7, 2, 7)", x.write(7, 2, 7), 0);
        DUE.is("write(4, 1, 4), others read", x.write(4, 1, 4), 1);
        DUE.promise("4 write, victim, likewise");
        x = Stores.withTransactions(2);
        x.write(1, 1, 1);
        x.write(2, 2, 2);
        x.read(1, 2);
        DUE.is("read(2, 1)", x.read(2, 1), 2);
        DUE.is("begin()", x.begin(), 3);
        DUE.is("begin()", x.begin(), 4);
        DUE.is("read(4, 2)", x.read(4, 2), 0);
        DUE.is("write(3, 2, 3)", x.write(3, 2, 3), 1);
    }
}
