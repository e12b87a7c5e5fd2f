/** The boundary cases in "Terms", from transactions to settling: a method for each case. */
public final class LockEdgesTest {
    private static final Due DUE = new Due("LockEdgesTest");
    private static final String CONFLICTS = "It CONFLICTS with a lock that another transaction "
        + "holds on this key unless both are shared.";
    private static final String FIT_UPGRADE = "or holds a shared one, wants an exclusive one, "
        + "and no other transaction holds a lock on the key";
    private static final String FIT_NONE = "or t holds none, it conflicts with no lock, and no "
        + "request of another transaction for this key that was made earlier waits.";
    private static final String WAITS_FOR_HOLDERS = "Then t WAITS FOR each other transaction "
        + "that holds a lock with which its request conflicts";
    private static final String WAITS_FOR_EARLIER = "if t holds no lock on the key, for each one "
        + "whose request for this key was made earlier and waits.";
    private static final String VICTIM = "come back to t when its request begins to wait, then t "
        + "is a VICTIM: it is aborted.";
    private static final String NO_ROOM = "To WRITE a value: if the log has 60 UPDATEs, or the "
        + "key has no place and none is free, there is NO ROOM and nothing is done (the lock is "
        + "held).";
    private static final String TAKEN_BACK = "To ABORT t: its open UPDATEs are taken back, the "
        + "greatest LSN first";
    private static final String ABORTED =
        "t is aborted, its request waits no more, it holds no locks.";
    private static final String SETTLING = "SETTLING, at the end of each call that wasn't "
        + "refused while the store is up, as long as one of these applies";

    public static void main(String[] args) {
        sixtyEverBegin();
        liveAreOneToThree();
        bothShared();
        oneExclusive();
        otherKeysAndOwnLocks();
        fitByAnExclusiveLock();
        fitByASharedLock();
        fitToWriteAloneAfterARead();
        notFitToWriteWhileAnotherReads();
        notFitBehindAnEarlierRequest();
        fitBesideRequestsForOtherKeys();
        exclusiveLockStaysSo();
        whoWaitsIsGrantedLater();
        waitingForTheFirstOfTwoHolders();
        waitingForTheSecondOfTwoHolders();
        waitingForAnEarlierRequestAlone();
        holderDoesNotWaitForEarlierRequests();
        earlierRequestDoesNotWaitForLaterOnes();
        circleOfTwo();
        circleOfThree();
        rowOfFourIsNoCircle();
        locksGrantedMeanwhileCount();
        victimLosesAll();
        readFetchesThePage();
        readWithoutAPlace();
        sixtiethUpdate();
        updatesThatWereLostDoNotCount();
        noRoomFetchesNothing();
        twentyFourthPlace();
        noRoomMakesASharedLockExclusive();
        leastFreePlace();
        sameValueIsWritten();
        abortGoesDown();
        abortFetchesAPageThatLeft();
        abortWithoutUpdates();
        abortLeavesOthersUpdates();
        abortedRequestWaitsNoMore();
        abortedHoldsNoLocks();
        settlingGrantsAll();
        settlingCommitsBeforeItGrants();
        settlingGrantsTheOneMadeFirst();
        settlingCommitsTheStableOnesOnly();
        settlingAfterARequest();
        DUE.end();
    }

    private static void sixtyEverBegin() {
        DUE.sentence("TRANSACTIONS are numbered 1, 2, .. as they begin, at most 60 ever do.");
        LogStore x = new LogStore();
        for (int t = 1; t <= 60; t++) {
            DUE.is("begin()", x.begin(), t);
            if (t % 4 == 0) {
                DUE.is("begin(), refused, uses no number up", x.begin(), -1);
                for (int other = t - 3; other <= t; other++) {
                    x.abort(other);
                }
            }
        }
        DUE.is("begin() the 61st, none is live", x.begin(), -1);
        DUE.is("state(60)", x.state(60), 5);
        DUE.is("state(61)", x.state(61), 0);
    }

    private static void liveAreOneToThree() {
        DUE.sentence("LIVE are 1 to 3.");
        LogStore x = Stores.withTransactions(4);
        x.write(1, 1, 1);
        x.read(2, 1);
        DUE.is("state(3), active", x.state(3), 1);
        DUE.is("state(2), waiting", x.state(2), 2);
        x.commit(1);
        DUE.is("state(1), committing", x.state(1), 3);
        DUE.is("begin()", x.begin(), -1);
        x.force();
        DUE.is("state(1), committed", x.state(1), 4);
        DUE.is("begin()", x.begin(), 5);
        DUE.is("begin()", x.begin(), -1);
        x.abort(3);
        DUE.is("state(3), aborted", x.state(3), 5);
        DUE.is("begin()", x.begin(), 6);
        x.crash(0);
        DUE.is("state(6), in doubt", x.state(6), 6);
        x.restart(9);
        for (int t = 7; t <= 10; t++) {
            DUE.is("begin()", x.begin(), t);
        }
        DUE.is("begin()", x.begin(), -1);
    }

    private static void bothShared() {
        DUE.sentence(CONFLICTS);
        LogStore x = Stores.withTransactions(4);
        for (int t = 1; t <= 4; t++) {
            DUE.is("read(" + t + ", 1)", x.read(t, 1), 0);
        }
    }

    private static void oneExclusive() {
        DUE.sentence(CONFLICTS);
        LogStore x = Stores.withTransactions(2);
        x.read(1, 1);
        DUE.is("write beside a read", x.write(2, 1, 2), 1);
        x = Stores.withTransactions(2);
        x.write(1, 1, 1);
        DUE.is("read beside a write", x.read(2, 1), 1);
        x = Stores.withTransactions(2);
        x.write(1, 1, 1);
        DUE.is("write beside a write", x.write(2, 1, 2), 1);
    }

    private static void otherKeysAndOwnLocks() {
        DUE.sentence(CONFLICTS);
        LogStore x = Stores.withTransactions(2);
        DUE.is("write(1, 0, 1)", x.write(1, 0, 1), 0);
        DUE.is("write(2, 1, 2)", x.write(2, 1, 2), 0);
        DUE.is("write(1, 99, 1)", x.write(1, 99, 1), 0);
        DUE.is("read(2, 98)", x.read(2, 98), 0);
        DUE.is("write(1, 0, 3), its own", x.write(1, 0, 3), 0);
        DUE.is("read(1, 99), its own", x.read(1, 99), 0);
    }

    private static void fitByAnExclusiveLock() {
        DUE.sentence("It is FIT if t holds an exclusive lock on the key");
        LogStore x = Stores.withTransactions(3);
        x.write(1, 1, 1);
        x.write(2, 1, 2);
        x.read(3, 1);
        DUE.is("write(1, 1, 3), two wait", x.write(1, 1, 3), 0);
        DUE.is("read(1, 1), two wait", x.read(1, 1), 0);
        DUE.is("value(1)", x.value(1), 3);
    }

    private static void fitByASharedLock() {
        DUE.sentence("or holds a shared one and wants no more");
        LogStore x = Stores.withTransactions(3);
        x.read(1, 1);
        DUE.is("write(2, 1, 2)", x.write(2, 1, 2), 1);
        DUE.is("read(1, 1), an earlier request waits", x.read(1, 1), 0);
        DUE.is("read(3, 1), which holds none", x.read(3, 1), 1);
    }

    private static void fitToWriteAloneAfterARead() {
        DUE.sentence(FIT_UPGRADE);
        LogStore x = Stores.withTransactions(3);
        x.read(1, 1);
        DUE.is("write(2, 1, 2)", x.write(2, 1, 2), 1);
        DUE.is("write(1, 1, 1), an earlier request waits", x.write(1, 1, 1), 0);
        x = Stores.withTransactions(3);
        x.read(1, 1);
        x.read(2, 1);
        x.abort(2);
        DUE.is("write(1, 1, 1), the other is aborted", x.write(1, 1, 1), 0);
    }

    private static void notFitToWriteWhileAnotherReads() {
        DUE.sentence(FIT_UPGRADE);
        LogStore x = Stores.withTransactions(3);
        x.read(1, 1);
        x.read(2, 1);
        x.read(3, 1);
        DUE.is("write(1, 1, 5)", x.write(1, 1, 5), 1);
        x.abort(3);
        DUE.is("state(1), one other is left", x.state(1), 2);
        x.commit(2);
        DUE.is("state(1), a committing one holds its locks", x.state(1), 2);
        x.force();
        DUE.is("state(1)", x.state(1), 1);
        DUE.is("outcome(1)", x.outcome(1), 0);
        DUE.is("stored(1)", x.stored(1), 5);
    }

    private static void notFitBehindAnEarlierRequest() {
        DUE.sentence(FIT_NONE);
        LogStore x = Stores.withTransactions(4);
        x.read(1, 1);
        DUE.is("write(2, 1, 2)", x.write(2, 1, 2), 1);
        DUE.is("read(3, 1), it conflicts with no lock", x.read(3, 1), 1);
        x.abort(2);
        DUE.is("state(3), none is earlier", x.state(3), 1);
        DUE.is("read(4, 1), none waits", x.read(4, 1), 0);
    }

    private static void fitBesideRequestsForOtherKeys() {
        DUE.sentence(FIT_NONE);
        LogStore x = Stores.withTransactions(4);
        x.read(1, 1);
        x.read(1, 2);
        DUE.is("write(2, 1, 2)", x.write(2, 1, 2), 1);
        DUE.is("read(3, 2)", x.read(3, 2), 0);
        DUE.is("write(4, 3, 4)", x.write(4, 3, 4), 0);
    }

    private static void exclusiveLockStaysSo() {
        DUE.sentence("t holds the lock (an exclusive one, once held, stays so) and what it is for "
            + "is done.");
        LogStore x = Stores.withTransactions(3);
        x.write(1, 1, 1);
        DUE.is("read(1, 1)", x.read(1, 1), 0);
        DUE.is("value(1)", x.value(1), 1);
        DUE.is("read(2, 1)", x.read(2, 1), 1);
        x.read(3, 2);
        DUE.is("write(3, 2, 3), a shared one becomes exclusive", x.write(3, 2, 3), 0);
        DUE.is("read(3, 2)", x.read(3, 2), 0);
        DUE.is("read(1, 2)", x.read(1, 2), 1);
    }

    private static void whoWaitsIsGrantedLater() {
        DUE.sentence("Another one WAITS, and so does t.");
        LogStore x = Stores.withTransactions(2);
        x.write(1, 1, 1);
        DUE.is("write(2, 1, 2)", x.write(2, 1, 2), 1);
        DUE.is("state(2)", x.state(2), 2);
        DUE.is("outcome(2)", x.outcome(2), 1);
        DUE.is("count(0), nothing is done yet", x.count(0), 1);
        DUE.is("read(2, 5), it is not active", x.read(2, 5), -1);
        DUE.is("write(2, 5, 5)", x.write(2, 5, 5), -1);
        DUE.is("commit(2)", x.commit(2), false);
        x.abort(1);
        DUE.is("state(2)", x.state(2), 1);
        DUE.is("outcome(2)", x.outcome(2), 0);
        DUE.is("stored(1)", x.stored(1), 2);
    }

    private static LogStore twoReadersAndOneWriter() {
        LogStore x = Stores.withTransactions(3);
        x.read(1, 1);
        x.read(2, 1);
        x.write(3, 2, 3);
        return x;
    }

    private static void waitingForTheFirstOfTwoHolders() {
        DUE.sentence(WAITS_FOR_HOLDERS);
        LogStore x = twoReadersAndOneWriter();
        DUE.is("read(1, 2)", x.read(1, 2), 1);
        DUE.is("write(3, 1, 3)", x.write(3, 1, 3), 2);
        DUE.is("state(1)", x.state(1), 1);
    }

    private static void waitingForTheSecondOfTwoHolders() {
        DUE.sentence(WAITS_FOR_HOLDERS);
        LogStore x = twoReadersAndOneWriter();
        DUE.is("read(2, 2)", x.read(2, 2), 1);
        DUE.is("write(3, 1, 3)", x.write(3, 1, 3), 2);
        x = twoReadersAndOneWriter();
        DUE.is("read(2, 2)", x.read(2, 2), 1);
        DUE.is("read(3, 1), which conflicts with neither", x.read(3, 1), 0);
    }

    /** 3 reads what 1 reads, too, but stands behind 2, which waits for 1, which waits for 3. */
    private static void waitingForAnEarlierRequestAlone() {
        DUE.sentence(WAITS_FOR_EARLIER);
        LogStore x = Stores.withTransactions(3);
        x.read(1, 1);
        x.write(3, 2, 3);
        DUE.is("write(2, 1, 2)", x.write(2, 1, 2), 1);
        DUE.is("read(1, 2)", x.read(1, 2), 1);
        DUE.is("read(3, 1)", x.read(3, 1), 2);
        DUE.is("state(1)", x.state(1), 1);
        DUE.is("state(2)", x.state(2), 2);
    }

    /** 2 waits for 1 and 3; if 1 waited for 2, whose request is earlier, it would be a victim. */
    private static void holderDoesNotWaitForEarlierRequests() {
        DUE.sentence(WAITS_FOR_EARLIER);
        LogStore x = Stores.withTransactions(3);
        x.read(1, 1);
        x.read(3, 1);
        DUE.is("write(2, 1, 2)", x.write(2, 1, 2), 1);
        DUE.is("write(1, 1, 1)", x.write(1, 1, 1), 1);
        x.abort(3);
        DUE.is("state(1)", x.state(1), 1);
        DUE.is("state(2)", x.state(2), 2);
        DUE.is("stored(1)", x.stored(1), 1);
    }

    private static void earlierRequestDoesNotWaitForLaterOnes() {
        DUE.sentence(WAITS_FOR_EARLIER);
        LogStore x = Stores.withTransactions(4);
        x.write(1, 1, 1);
        for (int t = 2; t <= 4; t++) {
            DUE.is("write(" + t + ", 1, 9)", x.write(t, 1, 9), 1);
        }
    }

    private static void circleOfTwo() {
        DUE.sentence(VICTIM);
        LogStore x = Stores.withTransactions(2);
        x.read(1, 1);
        x.read(2, 1);
        DUE.is("write(2, 1, 2)", x.write(2, 1, 2), 1);
        DUE.is("write(1, 1, 1), which closes the circle", x.write(1, 1, 1), 2);
        DUE.is("state(1)", x.state(1), 5);
        DUE.is("state(2), the other is none", x.state(2), 1);
    }

    private static void circleOfThree() {
        DUE.sentence(VICTIM);
        LogStore x = Stores.withTransactions(3);
        for (int t = 1; t <= 3; t++) {
            x.write(t, t, t);
        }
        DUE.is("read(1, 2)", x.read(1, 2), 1);
        DUE.is("read(2, 3)", x.read(2, 3), 1);
        DUE.is("read(3, 1)", x.read(3, 1), 2);
        DUE.is("state(2)", x.state(2), 1);
        DUE.is("state(1)", x.state(1), 2);
    }

    private static void rowOfFourIsNoCircle() {
        DUE.sentence(VICTIM);
        LogStore x = Stores.withTransactions(4);
        for (int t = 1; t <= 4; t++) {
            x.write(t, t, t);
        }
        DUE.is("read(1, 2)", x.read(1, 2), 1);
        DUE.is("read(2, 3)", x.read(2, 3), 1);
        DUE.is("read(3, 4)", x.read(3, 4), 1);
        DUE.is("read(4, 5)", x.read(4, 5), 0);
        DUE.is("read(4, 1), a circle of four", x.read(4, 1), 2);
    }

    /** 3 gets its shared lock after 1 began to wait, and only then 1 waits for 3. */
    private static void locksGrantedMeanwhileCount() {
        DUE.sentence(VICTIM);
        LogStore x = Stores.withTransactions(4);
        x.read(1, 1);
        x.read(2, 1);
        DUE.is("write(4, 1, 4)", x.write(4, 1, 4), 1);
        DUE.is("read(3, 1)", x.read(3, 1), 1);
        DUE.is("write(1, 1, 1), for 2 alone", x.write(1, 1, 1), 1);
        x.abort(4);
        DUE.is("state(3)", x.state(3), 1);
        DUE.is("state(1)", x.state(1), 2);
        x.abort(2);
        DUE.is("state(1), 3 reads", x.state(1), 2);
        DUE.is("write(3, 1, 3)", x.write(3, 1, 3), 2);
        DUE.is("state(1)", x.state(1), 1);
        DUE.is("stored(1)", x.stored(1), 1);
    }

    private static void victimLosesAll() {
        DUE.sentence(VICTIM);
        LogStore x = Stores.withTransactions(3);
        x.write(1, 1, 1);
        x.write(2, 2, 2);
        x.write(2, 3, 2);
        x.write(3, 4, 3);
        DUE.is("write(1, 2, 5)", x.write(1, 2, 5), 1);
        DUE.is("write(3, 3, 6)", x.write(3, 3, 6), 1);
        DUE.is("write(2, 1, 7)", x.write(2, 1, 7), 2);
        DUE.is("count(0), two CLRs and two UPDATEs more", x.count(0), 8);
        DUE.is("stored(2)", x.stored(2), 5);
        DUE.is("stored(3)", x.stored(3), 6);
        DUE.is("stored(1)", x.stored(1), 1);
        x.abort(1);
        DUE.is("place(1), the victim's request waits no more", x.place(1), -1);
    }

    private static void readFetchesThePage() {
        DUE.sentence("To READ: the value of the key if it has a place, whose page is fetched then");
        LogStore x = Stores.withKeys(13);
        DUE.is("page(0, 0)", x.page(0, 0), -1);
        DUE.is("read(1, 3)", x.read(1, 3), 0);
        DUE.is("value(1)", x.value(1), 103);
        DUE.is("page(0, 0)", x.page(0, 0), 0);
        DUE.is("count(2)", x.count(2), 5);
    }

    private static void readWithoutAPlace() {
        DUE.sentence("otherwise 0.");
        LogStore x = Stores.withKeys(1);
        x.read(1, 0);
        DUE.is("value(1)", x.value(1), 100);
        DUE.is("read(1, 1)", x.read(1, 1), 0);
        DUE.is("value(1)", x.value(1), 0);
        DUE.is("count(2)", x.count(2), 1);
        DUE.is("place(1), a read takes none", x.place(1), -1);
    }

    private static LogStore withUpdates(int number) {
        LogStore x = Stores.withKeys(24);
        for (int i = 25; i <= number; i++) {
            x.write(1, 23, i);
        }
        return x;
    }

    private static void sixtiethUpdate() {
        DUE.sentence(NO_ROOM);
        LogStore x = withUpdates(59);
        x.begin();
        DUE.is("write(1, 23, 60)", x.write(1, 23, 60), 0);
        DUE.is("count(0)", x.count(0), 60);
        DUE.is("write(1, 23, 61)", x.write(1, 23, 61), 3);
        DUE.is("write(2, 50, 61)", x.write(2, 50, 61), 3);
        DUE.is("stored(23)", x.stored(23), 60);
        DUE.is("count(0)", x.count(0), 60);
        x.abort(1);
        DUE.is("write(2, 51, 61), those taken back are in the log", x.write(2, 51, 61), 3);
    }

    private static void updatesThatWereLostDoNotCount() {
        DUE.sentence(NO_ROOM);
        LogStore x = withUpdates(60);
        DUE.is("count(1)", x.count(1), 12);
        DUE.is("crash(47), one is lost", x.crash(47), 59);
        x.restart(100);
        DUE.is("restart(100)", x.restart(100), 19);
        DUE.is("count(0), CLRs are no UPDATEs", x.count(0), 118);
        x.begin();
        DUE.is("write(2, 1, 60)", x.write(2, 1, 60), 0);
        DUE.is("write(2, 1, 61)", x.write(2, 1, 61), 3);
    }

    private static void noRoomFetchesNothing() {
        DUE.sentence(NO_ROOM);
        LogStore x = withUpdates(60);
        DUE.is("page(0, 0)", x.page(0, 0), -1);
        DUE.is("write(1, 0, 1), its page is not in the pool", x.write(1, 0, 1), 3);
        DUE.is("page(0, 0)", x.page(0, 0), -1);
        DUE.is("count(2)", x.count(2), 6);
        DUE.is("read(1, 0)", x.read(1, 0), 0);
        DUE.is("value(1)", x.value(1), 100);
    }

    private static void twentyFourthPlace() {
        DUE.sentence(NO_ROOM);
        LogStore x = Stores.withKeys(23);
        x.begin();
        DUE.is("write(1, 50, 1)", x.write(1, 50, 1), 0);
        DUE.is("place(50)", x.place(50), 23);
        DUE.is("write(1, 51, 1)", x.write(1, 51, 1), 3);
        DUE.is("place(51)", x.place(51), -1);
        DUE.is("count(0)", x.count(0), 24);
        DUE.is("read(2, 51), the lock is held", x.read(2, 51), 1);
        DUE.is("write(1, 0, 2), which has a place", x.write(1, 0, 2), 0);
    }

    private static void noRoomMakesASharedLockExclusive() {
        DUE.sentence(NO_ROOM);
        LogStore x = Stores.withKeys(24);
        x.begin();
        x.begin();
        DUE.is("read(2, 50)", x.read(2, 50), 0);
        DUE.is("write(2, 50, 2)", x.write(2, 50, 2), 3);
        DUE.is("read(3, 50)", x.read(3, 50), 1);
        x.abort(2);
        DUE.is("state(3)", x.state(3), 1);
    }

    private static void leastFreePlace() {
        DUE.sentence("Otherwise the key's place, or else the least free one, is taken, its page "
            + "is fetched, and an UPDATE to key and value is put into the log and applied");
        LogStore x = Stores.withTransactions(2);
        for (int key = 0; key < 6; key++) {
            x.write(1 + key % 2, key, 1);
        }
        x.abort(2);
        int[] places = {1, 3, 5, 6};
        for (int i = 0; i < 4; i++) {
            DUE.is("write(1, " + (90 - i) + ", 1)", x.write(1, 90 - i, 1), 0);
            DUE.is("place(" + (90 - i) + ")", x.place(90 - i), places[i]);
        }
        DUE.is("place(4)", x.place(4), 4);
    }

    private static void sameValueIsWritten() {
        DUE.sentence("(also if the value is the same).");
        LogStore x = Stores.withKeys(1);
        x.flush(0);
        DUE.is("write(1, 0, 100)", x.write(1, 0, 100), 0);
        DUE.is("count(0)", x.count(0), 2);
        DUE.is("page(0, 0)", x.page(0, 0), 2);
        DUE.is("page(0, 1)", x.page(0, 1), 2);
    }

    private static void abortGoesDown() {
        DUE.sentence(TAKEN_BACK);
        LogStore x = Stores.withKeys(5);
        x.commit(1);
        x.force();
        x.begin();
        x.write(2, 0, 1);
        x.write(2, 4, 2);
        x.write(2, 0, 3);
        DUE.is("abort(2)", x.abort(2), true);
        DUE.is("stored(0), as before the first of two", x.stored(0), 100);
        DUE.is("stored(4)", x.stored(4), 104);
        DUE.is("page(0, 1), its first UPDATE last", x.page(0, 1), 12);
        DUE.is("page(1, 1)", x.page(1, 1), 11);
        DUE.is("count(0)", x.count(0), 12);
    }

    private static void abortFetchesAPageThatLeft() {
        DUE.sentence("the page is fetched, a CLR is put into the log and applied.");
        LogStore x = Stores.withTransactions(2);
        x.write(1, 50, 1);
        for (int key = 0; key < 12; key++) {
            x.write(2, key, 2);
        }
        DUE.is("page(0, 0)", x.page(0, 0), -1);
        x.abort(1);
        DUE.is("page(0, 0)", x.page(0, 0), 14);
        DUE.is("page(0, 1)", x.page(0, 1), 14);
        DUE.is("page(1, 0), it had to leave", x.page(1, 0), -1);
        DUE.is("place(50)", x.place(50), -1);
        DUE.is("count(2)", x.count(2), 5);
    }

    private static void abortWithoutUpdates() {
        DUE.sentence(TAKEN_BACK);
        LogStore x = Stores.withKeys(1);
        x.begin();
        x.read(2, 5);
        DUE.is("abort(2)", x.abort(2), true);
        DUE.is("count(0)", x.count(0), 1);
        DUE.is("stored(0)", x.stored(0), 100);
    }

    private static void abortLeavesOthersUpdates() {
        DUE.sentence(TAKEN_BACK);
        LogStore x = Stores.withTransactions(3);
        for (int t = 1; t <= 3; t++) {
            x.write(t, t, t);
        }
        x.abort(1);
        DUE.is("count(0)", x.count(0), 4);
        x.abort(3);
        DUE.is("count(0), what was taken back is not again", x.count(0), 5);
        DUE.is("place(1)", x.place(1), -1);
        DUE.is("stored(2)", x.stored(2), 2);
        DUE.is("place(3)", x.place(3), -1);
    }

    private static void abortedRequestWaitsNoMore() {
        DUE.sentence(ABORTED);
        LogStore x = Stores.withTransactions(3);
        x.write(1, 1, 1);
        x.write(2, 1, 2);
        x.read(3, 1);
        DUE.is("abort(2)", x.abort(2), true);
        DUE.is("state(2)", x.state(2), 5);
        x.commit(1);
        x.force();
        DUE.is("value(3)", x.value(3), 1);
        DUE.is("stored(1)", x.stored(1), 1);
        DUE.is("state(2)", x.state(2), 5);
    }

    private static void abortedHoldsNoLocks() {
        DUE.sentence(ABORTED);
        LogStore x = Stores.withTransactions(3);
        x.write(1, 0, 1);
        x.read(1, 99);
        x.write(2, 1, 2);
        x.write(1, 1, 1);
        DUE.is("abort(1), which waits", x.abort(1), true);
        DUE.is("write(3, 0, 3)", x.write(3, 0, 3), 0);
        DUE.is("write(3, 99, 3)", x.write(3, 99, 3), 0);
        DUE.is("begin()", x.begin(), 4);
        DUE.is("read(4, 0), it has not the locks of 1", x.read(4, 0), 1);
    }

    private static void settlingGrantsAll() {
        DUE.sentence(SETTLING);
        LogStore x = Stores.withTransactions(4);
        x.write(1, 1, 1);
        x.read(4, 1);
        x.read(3, 1);
        x.read(2, 1);
        x.commit(1);
        x.force();
        for (int t = 2; t <= 4; t++) {
            DUE.is("state(" + t + ")", x.state(t), 1);
            DUE.is("value(" + t + ")", x.value(t), 1);
        }
    }

    /** 3 asked before 4, for a lock of the later COMMIT; it gets the lesser place all the same. */
    private static void settlingCommitsBeforeItGrants() {
        DUE.sentence("the least one's transaction is committed and holds no locks any more. "
            + "2 (if there is none) the waiting requests that are fit: the one that was made "
            + "first is granted, its transaction is active.");
        LogStore x = Stores.withTransactions(4);
        x.read(1, 10);
        x.read(2, 20);
        DUE.is("write(3, 20, 3)", x.write(3, 20, 3), 1);
        DUE.is("write(4, 10, 4)", x.write(4, 10, 4), 1);
        x.commit(1);
        x.commit(2);
        x.force();
        DUE.is("place(20)", x.place(20), 0);
        DUE.is("place(10)", x.place(10), 1);
        DUE.is("state(3)", x.state(3), 1);
        DUE.is("state(4)", x.state(4), 1);
    }

    private static void settlingGrantsTheOneMadeFirst() {
        DUE.sentence("the waiting requests that are fit: the one that was made first is granted, "
            + "its transaction is active.");
        LogStore x = Stores.withTransactions(4);
        int[] order = {3, 4, 2};
        for (int t : order) {
            x.read(1, t);
        }
        for (int t : order) {
            DUE.is("write(" + t + ", " + t + ", 1)", x.write(t, t, 1), 1);
        }
        x.abort(1);
        for (int i = 0; i < 3; i++) {
            DUE.is("place(" + order[i] + ")", x.place(order[i]), i);
            DUE.is("state(" + order[i] + ")", x.state(order[i]), 1);
        }
    }

    private static void settlingCommitsTheStableOnesOnly() {
        DUE.sentence("the COMMITs of committing transactions that are stable");
        LogStore x = Stores.withTransactions(3);
        x.write(1, 1, 1);
        x.commit(2);
        x.write(1, 1, 2);
        x.commit(3);
        x.flush(0);
        DUE.is("count(1), up to the second UPDATE", x.count(1), 3);
        DUE.is("state(2), its COMMIT is 2", x.state(2), 4);
        DUE.is("state(3), its COMMIT is 4", x.state(3), 3);
        x.commit(1);
        x.force();
        DUE.is("state(3)", x.state(3), 4);
        DUE.is("state(1)", x.state(1), 4);
    }

    /** A read puts page 1 out, whose LSN is that of an UPDATE after the COMMIT of 2. */
    private static void settlingAfterARequest() {
        DUE.sentence(SETTLING);
        LogStore x = Stores.withKeys(13);
        x.begin();
        x.begin();
        x.write(2, 60, 2);
        x.commit(2);
        DUE.is("read(3, 60)", x.read(3, 60), 1);
        x.write(1, 4, 1);
        x.read(1, 8);
        x.read(1, 12);
        DUE.is("state(2)", x.state(2), 3);
        DUE.is("count(1)", x.count(1), 4);
        DUE.is("read(1, 0)", x.read(1, 0), 0);
        DUE.is("page(1, 0), it left", x.page(1, 0), -1);
        DUE.is("count(1)", x.count(1), 16);
        DUE.is("state(2)", x.state(2), 4);
        DUE.is("state(3)", x.state(3), 1);
        DUE.is("value(3)", x.value(3), 2);
    }
}
