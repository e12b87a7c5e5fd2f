/** The boundary cases in "Terms", from the keys to the pool: a method for each case. */
public final class StoreEdgesTest {
    private static final Due DUE = new Due("StoreEdgesTest");
    private static final String KEYS = "KEYS are 0 .. 99, VALUES ints.";
    private static final String PLACES = "A place is FREE or holds a key and its value; "
        + "a key has at most one place.";
    private static final String OPEN = "An UPDATE is OPEN if no CLR in the log takes it back and "
        + "no COMMIT of its transaction is in the log.";
    private static final String POOL = "The POOL holds at most three pages";
    private static final String CHECKPOINT =
        "CHECKPOINT (the pages that were dirty, with their RECs)";
    private static final String STABLE_UP_TO = "To WRITE a dirty page: if less of the log is "
        + "stable than up to the page's LSN, it is stable up to there";
    private static final String FETCH =
        "To FETCH a page: if it is not in the pool and three pages are,";
    private static final String OLDEST =
        "the one whose latest fetch is longest ago leaves the pool";
    private static final String APPLY = "the place holds then what the record says, the page's "
        + "LSN becomes the record's, and if the page is clean it becomes dirty with this LSN as "
        + "its REC.";

    public static void main(String[] args) {
        leastAndGreatestKeys();
        leastAndGreatestValues();
        sixPagesOfFourPlaces();
        aPlaceWithAValueOfZeroIsNotFree();
        aKeyWrittenAgainKeepsItsPlace();
        freePlacesHoldNoKey();
        versionsAtFirst();
        lsnsBeginWithOne();
        everyKindOfRecordHasANumber();
        takenBackToFree();
        takenBackToAnOlderValue();
        checkpointOfNoDirtyPage();
        checkpointOfOneDirtyPageOfTwo();
        checkpointOfAFullPool();
        updateWithAClrIsNotOpen();
        updateWhoseClrWasLostIsOpen();
        updateWithTheLsnOfALostClrIsOpen();
        updateWithACommitIsNotOpen();
        updateWhoseCommitWasLostIsOpen();
        updateWithTheCommitOfAnotherIsOpen();
        poolWithThreePages();
        poolWithAFourthPage();
        poolNeverHoldsMore();
        writeWithLessStable();
        writeWithJustSoMuchStable();
        writeWithMoreStable();
        writeMakesTheVersion();
        fetchOfAPageThatIsIn();
        fetchWithTwoPagesIn();
        fetchWithThreePagesIn();
        latestFetchCountsNotTheFirst();
        flushIsNoFetch();
        looksAreNoFetch();
        dirtyPageIsWrittenBeforeItLeaves();
        cleanPageLeavesUnwritten();
        pageComesBackClean();
        updateOfACleanPage();
        updateOfADirtyPage();
        clrOfACleanPage();
        clrOfADirtyPage();
        DUE.end();
    }

    private static void leastAndGreatestKeys() {
        DUE.sentence(KEYS);
        LogStore x = Stores.withTransactions(1);
        for (int key : new int[] {-1, 100}) {
            DUE.is("read(1, " + key + ")", x.read(1, key), -1);
            DUE.is("write(1, " + key + ", 5)", x.write(1, key, 5), -1);
        }
        for (int key : new int[] {0, 99}) {
            DUE.is("read(1, " + key + ")", x.read(1, key), 0);
            DUE.is("write(1, " + key + ", ..)", x.write(1, key, key + 5), 0);
            DUE.is("stored(" + key + ")", x.stored(key), key + 5);
        }
        DUE.is("count(0)", x.count(0), 2);
    }

    private static void leastAndGreatestValues() {
        DUE.sentence(KEYS);
        int[] values = {Integer.MIN_VALUE, -1, 0, 1, Integer.MAX_VALUE};
        LogStore x = Stores.withTransactions(1);
        for (int key = 0; key < 5; key++) {
            DUE.is("write(1, " + key + ", ..)", x.write(1, key, values[key]), 0);
            DUE.is("read(1, " + key + ")", x.read(1, key), 0);
            DUE.is("value(1)", x.value(1), values[key]);
        }
        x.commit(1);
        x.force();
        x.begin();
        for (int key = 0; key < 5; key++) {
            x.write(2, key, values[4 - key]);
            DUE.is("stored(" + key + ")", x.stored(key), values[4 - key]);
        }
        x.abort(2);
        for (int key = 0; key < 5; key++) {
            DUE.is("stored(" + key + ") after the abort", x.stored(key), values[key]);
        }
        DUE.is("crash(99)", x.crash(99), 16);
        DUE.is("restart(99)", x.restart(99), 17);
        for (int key = 0; key < 5; key++) {
            DUE.is("stored(" + key + ") after the restart", x.stored(key), values[key]);
        }
    }

    private static void sixPagesOfFourPlaces() {
        DUE.sentence("There are six PAGES 0 .. 5 with four slots each: PLACES 0 .. 23, "
            + "place x in page x / 4.");
        LogStore x = Stores.withTransactions(1);
        for (int key = 0; key < 24; key++) {
            int page = key / 4;
            DUE.is("page(" + page + ", 1)", x.page(page, 1), key % 4 == 0 ? -1 : key);
            DUE.is("write(1, " + key + ", 1)", x.write(1, key, 1), 0);
            DUE.is("place(" + key + ")", x.place(key), key);
            DUE.is("page(" + page + ", 1)", x.page(page, 1), key + 1);
        }
        DUE.is("count(2)", x.count(2), 6);
        DUE.is("write(1, 24, 1), there is no place 24", x.write(1, 24, 1), 3);
    }

    private static void aPlaceWithAValueOfZeroIsNotFree() {
        DUE.sentence(PLACES);
        LogStore x = Stores.withTransactions(1);
        DUE.is("write(1, 0, 0)", x.write(1, 0, 0), 0);
        DUE.is("place(0)", x.place(0), 0);
        DUE.is("after(-1)", x.after(-1), 0);
        DUE.is("write(1, 5, 0)", x.write(1, 5, 0), 0);
        DUE.is("place(5)", x.place(5), 1);
        DUE.is("place(0)", x.place(0), 0);
    }

    private static void aKeyWrittenAgainKeepsItsPlace() {
        DUE.sentence(PLACES);
        LogStore x = Stores.withKeys(3);
        for (int i = 0; i < 3; i++) {
            DUE.is("write(1, 1, " + i + ")", x.write(1, 1, i), 0);
            DUE.is("place(1)", x.place(1), 1);
        }
        DUE.is("write(1, 9, 9)", x.write(1, 9, 9), 0);
        DUE.is("place(9), no other was taken", x.place(9), 3);
        DUE.is("after(0)", x.after(0), 1);
        DUE.is("after(1)", x.after(1), 2);
    }

    private static void freePlacesHoldNoKey() {
        DUE.sentence("at first all places are free and all LSNs 0.");
        LogStore x = Stores.withTransactions(1);
        x.write(1, 7, 70);
        DUE.is("place(0), though page 0 is in the pool", x.place(0), -1);
        DUE.is("stored(0)", x.stored(0), 0);
        DUE.is("place(-1)", x.place(-1), -1);
        DUE.is("after(-1)", x.after(-1), 7);
        DUE.is("after(7)", x.after(7), -1);
        DUE.is("read(1, 0)", x.read(1, 0), 0);
        DUE.is("value(1)", x.value(1), 0);
        DUE.is("count(2)", x.count(2), 1);
    }

    private static void versionsAtFirst() {
        DUE.sentence("at first all places are free and all LSNs 0.");
        LogStore x = new LogStore();
        for (int page = 0; page < 6; page++) {
            DUE.is("page(" + page + ", 2)", x.page(page, 2), 0);
        }
        for (int key = 0; key < 100; key++) {
            DUE.is("place(" + key + ")", x.place(key), -1);
        }
        x.begin();
        x.write(1, 7, 70);
        DUE.is("page(0, 2), nothing was written", x.page(0, 2), 0);
        x.crash(0);
        DUE.is("place(7)", x.place(7), -1);
    }

    private static void lsnsBeginWithOne() {
        DUE.sentence("The LOG is a list of records numbered 1, 2, .. (their LSNs), the first so "
            + "many of which are STABLE.");
        LogStore x = Stores.withTransactions(1);
        DUE.is("write(1, 1, 1)", x.write(1, 1, 1), 0);
        DUE.is("page(0, 1)", x.page(0, 1), 1);
        DUE.is("checkpoint()", x.checkpoint(), 2);
        DUE.is("new LogStore().checkpoint()", new LogStore().checkpoint(), 1);
        DUE.is("count(1)", x.count(1), 0);
        DUE.is("flush(0)", x.flush(0), true);
        DUE.is("count(1), the first alone", x.count(1), 1);
        DUE.is("crash(0)", x.crash(0), 1);
        DUE.is("restart(9)", x.restart(9), 3);
        DUE.is("checkpoint(), after the CLR", x.checkpoint(), 3);
    }

    private static void everyKindOfRecordHasANumber() {
        DUE.sentence("The LOG is a list of records numbered 1, 2, .. (their LSNs), the first so "
            + "many of which are STABLE.");
        LogStore x = Stores.withTransactions(2);
        x.write(1, 1, 1);
        DUE.is("page(0, 1), the UPDATE", x.page(0, 1), 1);
        x.abort(1);
        DUE.is("page(0, 1), the CLR", x.page(0, 1), 2);
        x.commit(2);
        DUE.is("count(0), the COMMIT", x.count(0), 3);
        DUE.is("checkpoint()", x.checkpoint(), 4);
        x.begin();
        x.read(3, 1);
        x.flush(0);
        x.force();
        x.abort(3);
        DUE.is("count(0), the others put nothing into the log", x.count(0), 4);
    }

    private static void takenBackToFree() {
        DUE.sentence("UPDATE (transaction, place, what it held before, what it holds then)");
        LogStore x = Stores.withTransactions(2);
        x.write(1, 0, 5);
        x.abort(1);
        DUE.is("place(0)", x.place(0), -1);
        DUE.is("after(-1)", x.after(-1), -1);
        DUE.is("write(2, 8, 1)", x.write(2, 8, 1), 0);
        DUE.is("place(8)", x.place(8), 0);
    }

    private static void takenBackToAnOlderValue() {
        DUE.sentence("CLR (the LSN of the UPDATE that it takes back, its transaction and place, "
            + "what that held before)");
        LogStore x = Stores.withKeys(1);
        x.commit(1);
        x.force();
        x.begin();
        x.write(2, 0, 1);
        x.abort(2);
        DUE.is("stored(0)", x.stored(0), 100);
        DUE.is("place(0)", x.place(0), 0);
        DUE.is("crash(9)", x.crash(9), 4);
        DUE.is("restart(4)", x.restart(4), 4);
        DUE.is("stored(0), the UPDATE", x.stored(0), 1);
        DUE.is("restart(1)", x.restart(1), 1);
        DUE.is("stored(0), the CLR", x.stored(0), 100);
    }

    private static void checkpointOfNoDirtyPage() {
        DUE.sentence(CHECKPOINT);
        LogStore x = Stores.withKeys(8);
        x.flush(0);
        x.flush(1);
        x.checkpoint();
        x.commit(1);
        DUE.is("crash(9)", x.crash(9), 10);
        DUE.is("restart(9), nothing to repeat", x.restart(9), 1);
        DUE.is("up()", x.up(), true);
        DUE.is("count(2), nothing was fetched", x.count(2), 2);
    }

    private static void checkpointOfOneDirtyPageOfTwo() {
        DUE.sentence(CHECKPOINT);
        LogStore x = Stores.withKeys(8);
        x.flush(0);
        x.checkpoint();
        x.commit(1);
        DUE.is("crash(9)", x.crash(9), 10);
        DUE.is("restart(9), from 5 to 10", x.restart(9), 7);
        DUE.is("page(0, 0), not named", x.page(0, 0), -1);
        DUE.is("page(1, 0)", x.page(1, 0), 5);
    }

    private static void checkpointOfAFullPool() {
        DUE.sentence(CHECKPOINT);
        LogStore x = Stores.withKeys(12);
        DUE.is("checkpoint()", x.checkpoint(), 13);
        x.commit(1);
        DUE.is("crash(99)", x.crash(99), 14);
        DUE.is("restart(99), from 1 to 14", x.restart(99), 15);
        for (int page = 0; page < 3; page++) {
            DUE.is("page(" + page + ", 0)", x.page(page, 0), 4 * page + 1);
        }
    }

    private static void updateWithAClrIsNotOpen() {
        DUE.sentence(OPEN);
        LogStore x = Stores.withKeys(2);
        x.abort(1);
        DUE.is("crash(4)", x.crash(4), 4);
        DUE.is("restart(9), nothing to undo", x.restart(9), 5);
        DUE.is("count(0)", x.count(0), 4);
    }

    private static void updateWhoseClrWasLostIsOpen() {
        DUE.sentence(OPEN);
        LogStore x = Stores.withKeys(2);
        x.abort(1);
        DUE.is("crash(3)", x.crash(3), 3);
        DUE.is("restart(9), one to undo", x.restart(9), 5);
        DUE.is("count(0)", x.count(0), 4);
        DUE.is("place(0)", x.place(0), -1);
        DUE.is("place(1)", x.place(1), -1);
    }

    private static void updateWithTheLsnOfALostClrIsOpen() {
        DUE.sentence(OPEN);
        LogStore x = Stores.withKeys(1);
        x.abort(1);
        DUE.is("count(0), the CLR is 2", x.count(0), 2);
        DUE.is("crash(0)", x.crash(0), 0);
        x.restart(1);
        x.begin();
        x.write(2, 1, 1);
        x.write(2, 2, 2);
        DUE.is("count(0), an UPDATE is 2", x.count(0), 2);
        x.abort(2);
        DUE.is("count(0)", x.count(0), 4);
        DUE.is("place(2)", x.place(2), -1);
    }

    private static void updateWithACommitIsNotOpen() {
        DUE.sentence(OPEN);
        LogStore x = Stores.withKeys(2);
        x.commit(1);
        DUE.is("crash(3)", x.crash(3), 3);
        DUE.is("restart(9), nothing to undo", x.restart(9), 4);
        DUE.is("stored(1)", x.stored(1), 101);
    }

    private static void updateWhoseCommitWasLostIsOpen() {
        DUE.sentence(OPEN);
        LogStore x = Stores.withKeys(2);
        x.commit(1);
        DUE.is("crash(2)", x.crash(2), 2);
        DUE.is("restart(9), two to undo", x.restart(9), 5);
        DUE.is("place(0)", x.place(0), -1);
        DUE.is("place(1)", x.place(1), -1);
    }

    private static void updateWithTheCommitOfAnotherIsOpen() {
        DUE.sentence(OPEN);
        LogStore x = Stores.withKeys(1);
        x.begin();
        x.write(2, 7, 70);
        x.commit(2);
        DUE.is("crash(3)", x.crash(3), 3);
        DUE.is("restart(9), one to undo", x.restart(9), 5);
        DUE.is("place(0)", x.place(0), -1);
        DUE.is("stored(7)", x.stored(7), 70);
    }

    private static int pagesIn(LogStore x) {
        int in = 0;
        for (int page = 0; page < 6; page++) {
            in += x.page(page, 0) == -1 ? 0 : 1;
        }
        return in;
    }

    private static void poolWithThreePages() {
        DUE.sentence(POOL);
        LogStore x = Stores.withKeys(12);
        DUE.is("pages in the pool", pagesIn(x), 3);
        DUE.is("count(3)", x.count(3), 0);
        DUE.is("count(1)", x.count(1), 0);
    }

    private static void poolWithAFourthPage() {
        DUE.sentence(POOL);
        LogStore x = Stores.withKeys(13);
        DUE.is("pages in the pool", pagesIn(x), 3);
        DUE.is("page(0, 0)", x.page(0, 0), -1);
        DUE.is("count(2)", x.count(2), 4);
        DUE.is("count(3)", x.count(3), 1);
    }

    private static void poolNeverHoldsMore() {
        DUE.sentence(POOL);
        LogStore x = Stores.withKeys(24);
        for (int key = 0; key < 24; key += 4) {
            x.read(1, key);
            DUE.is("pages in the pool", pagesIn(x), 3);
        }
        x.crash(99);
        DUE.is("pages in the pool after a crash", pagesIn(x), 0);
        x.restart(25);
        DUE.is("pages in the pool after the redo", pagesIn(x), 3);
        x.restart(100);
        DUE.is("pages in the pool after the undo", pagesIn(x), 3);
    }

    private static void writeWithLessStable() {
        DUE.sentence(STABLE_UP_TO);
        LogStore x = Stores.withKeys(5);
        DUE.is("flush(0)", x.flush(0), true);
        DUE.is("count(1)", x.count(1), 4);
        DUE.is("count(0)", x.count(0), 5);
        x.write(1, 1, 1);
        DUE.is("flush(1), whose LSN is one greater", x.flush(1), true);
        DUE.is("count(1)", x.count(1), 5);
    }

    private static void writeWithJustSoMuchStable() {
        DUE.sentence(STABLE_UP_TO);
        LogStore x = Stores.withKeys(4);
        x.force();
        x.checkpoint();
        DUE.is("flush(0)", x.flush(0), true);
        DUE.is("count(1)", x.count(1), 4);
        DUE.is("count(0)", x.count(0), 5);
    }

    private static void writeWithMoreStable() {
        DUE.sentence(STABLE_UP_TO);
        LogStore x = Stores.withKeys(6);
        x.force();
        DUE.is("flush(0)", x.flush(0), true);
        DUE.is("count(1)", x.count(1), 6);
    }

    private static void writeMakesTheVersion() {
        DUE.sentence("the version of the page becomes what the pool has; the page is clean.");
        LogStore x = Stores.withKeys(3);
        DUE.is("page(0, 2)", x.page(0, 2), 0);
        DUE.is("flush(0)", x.flush(0), true);
        DUE.is("page(0, 2)", x.page(0, 2), 3);
        DUE.is("page(0, 1), it stays in the pool", x.page(0, 1), 3);
        DUE.is("page(0, 0)", x.page(0, 0), 0);
        x.write(1, 0, 1);
        DUE.is("page(0, 2), what comes later is not in it", x.page(0, 2), 3);
        x.crash(0);
        for (int key = 0; key < 3; key++) {
            DUE.is("stored(" + key + ")", x.stored(key), key + 100);
        }
        DUE.is("place(3)", x.place(3), -1);
    }

    private static void fetchOfAPageThatIsIn() {
        DUE.sentence(FETCH);
        LogStore x = Stores.withKeys(12);
        for (int key = 0; key < 12; key++) {
            DUE.is("read(1, " + key + ")", x.read(1, key), 0);
        }
        DUE.is("count(2)", x.count(2), 3);
        DUE.is("count(3)", x.count(3), 0);
        DUE.is("page(0, 0), it stays dirty", x.page(0, 0), 1);
    }

    private static void fetchWithTwoPagesIn() {
        DUE.sentence(FETCH);
        LogStore x = Stores.withKeys(8);
        DUE.is("write(1, 8, 1)", x.write(1, 8, 1), 0);
        DUE.is("page(0, 0)", x.page(0, 0), 1);
        DUE.is("page(1, 0)", x.page(1, 0), 5);
        DUE.is("page(2, 0)", x.page(2, 0), 9);
    }

    private static void fetchWithThreePagesIn() {
        DUE.sentence(OLDEST);
        LogStore x = Stores.withKeys(12);
        DUE.is("write(1, 12, 1)", x.write(1, 12, 1), 0);
        DUE.is("page(0, 0)", x.page(0, 0), -1);
        DUE.is("page(1, 0)", x.page(1, 0), 5);
        DUE.is("page(2, 0)", x.page(2, 0), 9);
        DUE.is("page(3, 0)", x.page(3, 0), 13);
    }

    private static void latestFetchCountsNotTheFirst() {
        DUE.sentence(OLDEST);
        LogStore x = Stores.withKeys(12);
        x.read(1, 4);
        x.read(1, 0);
        x.write(1, 12, 1);
        DUE.is("page(2, 0), the oldest though it came last", x.page(2, 0), -1);
        DUE.is("page(1, 0)", x.page(1, 0), 5);
        DUE.is("page(0, 0)", x.page(0, 0), 1);
    }

    private static void flushIsNoFetch() {
        DUE.sentence(OLDEST);
        LogStore x = Stores.withKeys(12);
        x.flush(0);
        x.checkpoint();
        x.write(1, 12, 1);
        DUE.is("page(0, 0)", x.page(0, 0), -1);
        DUE.is("page(1, 0)", x.page(1, 0), 5);
    }

    private static void looksAreNoFetch() {
        DUE.sentence(OLDEST);
        LogStore x = Stores.withKeys(12);
        x.stored(0);
        x.place(0);
        x.after(-1);
        x.page(0, 1);
        x.read(1, 50);
        x.write(1, 12, 1);
        DUE.is("page(0, 0)", x.page(0, 0), -1);
        DUE.is("page(1, 0)", x.page(1, 0), 5);
    }

    private static void dirtyPageIsWrittenBeforeItLeaves() {
        DUE.sentence("and is written before if it is dirty");
        LogStore x = Stores.withKeys(12);
        DUE.is("count(1)", x.count(1), 0);
        x.write(1, 12, 1);
        DUE.is("count(3)", x.count(3), 1);
        DUE.is("count(1), page 0 had the LSN 4", x.count(1), 4);
        DUE.is("page(0, 2)", x.page(0, 2), 4);
        DUE.is("stored(3)", x.stored(3), 103);
    }

    private static void cleanPageLeavesUnwritten() {
        DUE.sentence("and is written before if it is dirty");
        LogStore x = Stores.withKeys(12);
        x.flush(0);
        x.write(1, 12, 1);
        DUE.is("page(0, 0)", x.page(0, 0), -1);
        DUE.is("count(3), by the flush alone", x.count(3), 1);
    }

    private static void pageComesBackClean() {
        DUE.sentence("then it comes into the pool, clean, as the disk has it.");
        LogStore x = Stores.withKeys(13);
        DUE.is("read(1, 0)", x.read(1, 0), 0);
        DUE.is("value(1)", x.value(1), 100);
        DUE.is("page(0, 0)", x.page(0, 0), 0);
        DUE.is("page(0, 1)", x.page(0, 1), 4);
        DUE.is("count(2)", x.count(2), 5);
        DUE.is("write(1, 0, 7)", x.write(1, 0, 7), 0);
        DUE.is("page(0, 0), its old REC is forgotten", x.page(0, 0), 14);
    }

    private static void updateOfACleanPage() {
        DUE.sentence(APPLY);
        LogStore x = Stores.withKeys(1);
        DUE.is("page(0, 0)", x.page(0, 0), 1);
        x.flush(0);
        DUE.is("page(0, 0)", x.page(0, 0), 0);
        x.write(1, 0, 9);
        DUE.is("stored(0)", x.stored(0), 9);
        DUE.is("page(0, 0)", x.page(0, 0), 2);
        DUE.is("page(0, 1)", x.page(0, 1), 2);
    }

    private static void updateOfADirtyPage() {
        DUE.sentence(APPLY);
        LogStore x = Stores.withKeys(4);
        DUE.is("page(0, 0)", x.page(0, 0), 1);
        DUE.is("page(0, 1)", x.page(0, 1), 4);
        x.force();
        x.write(1, 0, 9);
        DUE.is("page(0, 0), a force does not change that", x.page(0, 0), 1);
        DUE.is("page(0, 1)", x.page(0, 1), 5);
    }

    private static void clrOfACleanPage() {
        DUE.sentence(APPLY);
        LogStore x = Stores.withKeys(2);
        x.flush(0);
        x.abort(1);
        DUE.is("place(0)", x.place(0), -1);
        DUE.is("page(0, 0), the first CLR", x.page(0, 0), 3);
        DUE.is("page(0, 1), the second", x.page(0, 1), 4);
        DUE.is("page(0, 2)", x.page(0, 2), 2);
    }

    private static void clrOfADirtyPage() {
        DUE.sentence(APPLY);
        LogStore x = Stores.withKeys(2);
        x.abort(1);
        DUE.is("page(0, 0)", x.page(0, 0), 1);
        DUE.is("page(0, 1)", x.page(0, 1), 4);
    }
}
