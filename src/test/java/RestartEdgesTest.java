/** The boundary cases in "Terms", of the crash and the restart: a method for each case. */
public final class RestartEdgesTest {
    private static final Due DUE = new Due("RestartEdgesTest");
    private static final String LOST = "The log loses the records that are not stable.";
    private static final String EMPTY =
        "Pool and locks are empty, no request waits, live transactions are in doubt.";
    private static final String ANEW = "by units of work (from the beginning after each crash)";
    private static final String GREATEST_C =
        "with the CHECKPOINT of the greatest LSN c in the log (0 if there is none)";
    private static final String TABLE = "the TABLE has the pages that it names with their RECs, "
        + "and each other page to whose places UPDATEs or CLRs with LSNs greater than c belong, "
        + "with the least of these.";
    private static final String FROM = "FROM is the least LSN in the table.";
    private static final String REDO = "REDO, one unit for each record from FROM on (none if the "
        + "table is empty), in order";
    private static final String FETCHED = "if it is an UPDATE or CLR of a page in the table whose "
        + "LSN there is not greater than the record's, the page is fetched";
    private static final String REPEATED =
        "if its LSN is less than the record's, the record is applied.";
    private static final String UNDO = "UNDO, one unit for each open UPDATE, the greatest LSN "
        + "first: taken back as by an abort.";
    private static final String UP = "As soon as a unit leaves nothing to do, the store is up";
    private static final String DOUBT = "transactions in doubt are committed if their COMMIT is "
        + "in the log, else aborted.";

    public static void main(String[] args) {
        nothingIsLost();
        someIsLost();
        allIsLost();
        poolIsEmptyAfterACrash();
        noPageIsDirtyAfterACrash();
        locksAreEmptyAfterACrash();
        noRequestWaitsAfterACrash();
        liveOnesAreInDoubt();
        nothingSettlesInACrash();
        noneIsLive();
        restartBeginsAnew();
        noCheckpoint();
        greatestOfTwoCheckpoints();
        greatestThatIsInTheLog();
        namedPageKeepsItsRec();
        namedPageOfAnEarlierRestart();
        changeJustBeforeTheCheckpoint();
        changeJustAfterTheCheckpoint();
        clrAfterTheCheckpoint();
        leastOfTheChangesAfterTheCheckpoint();
        fromIsTheLeastRec();
        fromIsAfterTheCheckpoint();
        emptyTableOfAnEmptyLog();
        emptyTableWithRecords();
        everyRecordIsAUnit();
        recordOfJustTheTablesLsn();
        recordBeforeTheTablesLsn();
        recordOfAPageOutsideTheTable();
        pageWithALesserLsn();
        pageWithTheSameLsn();
        pageWithAGreaterLsn();
        redoPutsPagesOut();
        nothingToUndo();
        undoGoesDownOverAllTransactions();
        undoGoesOnAfterACrash();
        undoneIsNotRepeated();
        upByTheAnalysis();
        upByTheLastOfTheRedo();
        upByTheLastOfTheUndo();
        doubtEndsWithTheLastUnit();
        doubtIsDecidedByTheLog();
        whoWasAbortedBeforeStaysSo();
        otherCallsWhileDown();
        looksWhileDown();
        DUE.end();
    }

    private static void nothingIsLost() {
        DUE.sentence(LOST);
        LogStore x = Stores.withKeys(3);
        x.force();
        DUE.is("crash(0)", x.crash(0), 3);
        DUE.is("count(1)", x.count(1), 3);
        DUE.is("new LogStore().crash(0)", new LogStore().crash(0), 0);
    }

    private static void someIsLost() {
        DUE.sentence(LOST);
        LogStore x = Stores.withKeys(5);
        x.flush(0);
        DUE.is("crash(0)", x.crash(0), 4);
        DUE.is("count(0)", x.count(0), 4);
        DUE.is("count(1)", x.count(1), 4);
        x.restart(99);
        x.begin();
        DUE.is("write(2, 9, 9)", x.write(2, 9, 9), 0);
        DUE.is("page(0, 1), after four CLRs", x.page(0, 1), 9);
    }

    private static void allIsLost() {
        DUE.sentence(LOST);
        LogStore x = Stores.withKeys(5);
        DUE.is("crash(0)", x.crash(0), 0);
        DUE.is("count(0)", x.count(0), 0);
        DUE.is("restart(9)", x.restart(9), 1);
        DUE.is("checkpoint()", x.checkpoint(), 1);
        DUE.is("after(-1)", x.after(-1), -1);
    }

    private static void poolIsEmptyAfterACrash() {
        DUE.sentence(EMPTY);
        LogStore x = Stores.withKeys(12);
        x.flush(0);
        x.crash(99);
        for (int page = 0; page < 3; page++) {
            DUE.is("page(" + page + ", 0)", x.page(page, 0), -1);
            DUE.is("page(" + page + ", 1)", x.page(page, 1), -1);
        }
        DUE.is("count(3), none was written for that", x.count(3), 1);
        DUE.is("stored(0)", x.stored(0), 100);
        DUE.is("stored(4)", x.stored(4), 0);
    }

    private static void noPageIsDirtyAfterACrash() {
        DUE.sentence(EMPTY);
        LogStore x = Stores.withKeys(1);
        x.crash(0);
        DUE.is("restart(9)", x.restart(9), 1);
        DUE.is("flush(0)", x.flush(0), false);
        DUE.is("checkpoint()", x.checkpoint(), 1);
        DUE.is("crash(9)", x.crash(9), 1);
        DUE.is("restart(9), the checkpoint names no page", x.restart(9), 1);
        x.begin();
        x.write(2, 7, 7);
        DUE.is("page(0, 0), dirty since then", x.page(0, 0), 2);
    }

    private static void locksAreEmptyAfterACrash() {
        DUE.sentence(EMPTY);
        LogStore x = Stores.withTransactions(4);
        for (int t = 1; t <= 4; t++) {
            x.write(t, t, t);
            x.read(t, t + 10);
        }
        x.crash(0);
        x.restart(1);
        for (int t = 5; t <= 8; t++) {
            x.begin();
            DUE.is("write(" + t + ", " + (9 - t) + ", 1)", x.write(t, 9 - t, 1), 0);
        }
        DUE.is("write(5, 11, 1)", x.write(5, 11, 1), 0);
        DUE.is("write(6, 4, 1), 5 holds it now", x.write(6, 4, 1), 1);
    }

    private static void noRequestWaitsAfterACrash() {
        DUE.sentence(EMPTY);
        LogStore x = Stores.withTransactions(2);
        x.read(1, 1);
        x.write(2, 1, 2);
        x.crash(0);
        DUE.is("restart(9)", x.restart(9), 1);
        DUE.is("place(1), it was not granted", x.place(1), -1);
        DUE.is("outcome(2)", x.outcome(2), 1);
        x.begin();
        x.begin();
        x.read(3, 1);
        DUE.is("read(4, 1), nothing waits before it", x.read(4, 1), 0);
    }

    private static void liveOnesAreInDoubt() {
        DUE.sentence(EMPTY);
        LogStore x = Stores.withTransactions(4);
        x.commit(1);
        x.force();
        x.abort(2);
        x.begin();
        x.begin();
        x.write(3, 1, 3);
        x.read(4, 1);
        x.commit(5);
        int[] before = {4, 5, 1, 2, 3, 1};
        int[] after = {4, 5, 6, 6, 6, 6};
        for (int t = 1; t <= 6; t++) {
            DUE.is("state(" + t + ")", x.state(t), before[t - 1]);
        }
        x.crash(0);
        for (int t = 1; t <= 6; t++) {
            DUE.is("state(" + t + ") after the crash", x.state(t), after[t - 1]);
        }
        DUE.is("state(7)", x.state(7), 0);
    }

    /** The crash itself makes the COMMIT stable, but 1 is not committed before the restart. */
    private static void nothingSettlesInACrash() {
        DUE.sentence(EMPTY);
        LogStore x = Stores.withTransactions(2);
        x.read(1, 1);
        x.write(2, 1, 2);
        x.commit(1);
        DUE.is("crash(1)", x.crash(1), 1);
        DUE.is("state(1)", x.state(1), 6);
        DUE.is("state(2)", x.state(2), 6);
        DUE.is("outcome(2), not granted", x.outcome(2), 1);
        DUE.is("restart(9)", x.restart(9), 1);
        DUE.is("state(1)", x.state(1), 4);
        DUE.is("state(2)", x.state(2), 5);
        DUE.is("outcome(2)", x.outcome(2), 1);
    }

    private static void noneIsLive() {
        DUE.sentence(EMPTY);
        LogStore x = Stores.withKeys(1);
        x.commit(1);
        x.force();
        x.crash(0);
        DUE.is("state(1)", x.state(1), 4);
        x.restart(9);
        DUE.is("state(1)", x.state(1), 4);
        DUE.is("stored(0)", x.stored(0), 100);
    }

    private static void restartBeginsAnew() {
        DUE.sentence(ANEW);
        LogStore x = Stores.withKeys(2);
        x.crash(2);
        for (int units = 1; units <= 4; units++) {
            DUE.is("restart(" + units + ")", x.restart(units), units);
            DUE.is("up()", x.up(), false);
            DUE.is("crash(0)", x.crash(0), 2);
            DUE.is("page(0, 0)", x.page(0, 0), -1);
        }
        DUE.is("restart(9), 1 and 2 and 2", x.restart(9), 5);
        DUE.is("up()", x.up(), true);
    }

    private static void noCheckpoint() {
        DUE.sentence(GREATEST_C);
        LogStore x = Stores.withKeys(2);
        x.commit(1);
        x.flush(0);
        DUE.is("crash(1)", x.crash(1), 3);
        DUE.is("restart(9), from 1 on", x.restart(9), 4);
        DUE.is("count(2)", x.count(2), 2);
    }

    private static void greatestOfTwoCheckpoints() {
        DUE.sentence(GREATEST_C);
        LogStore x = Stores.withKeys(1);
        x.checkpoint();
        x.flush(0);
        x.checkpoint();
        x.commit(1);
        DUE.is("crash(9)", x.crash(9), 4);
        DUE.is("restart(9), the greater names none", x.restart(9), 1);
        x = Stores.withTransactions(1);
        x.checkpoint();
        x.write(1, 1, 1);
        x.checkpoint();
        x.commit(1);
        DUE.is("crash(9)", x.crash(9), 4);
        DUE.is("restart(9), the greater names page 0", x.restart(9), 4);
        DUE.is("page(0, 0)", x.page(0, 0), 2);
    }

    private static void greatestThatIsInTheLog() {
        DUE.sentence(GREATEST_C);
        LogStore x = Stores.withKeys(1);
        x.commit(1);
        x.checkpoint();
        x.flush(0);
        x.force();
        x.checkpoint();
        DUE.is("crash(0), the second is lost", x.crash(0), 3);
        DUE.is("restart(9), from 1 on by the first", x.restart(9), 4);
        DUE.is("checkpoint()", x.checkpoint(), 4);
        DUE.is("crash(0), the second is lost again", x.crash(0), 3);
        DUE.is("restart(9)", x.restart(9), 4);
    }

    private static void namedPageKeepsItsRec() {
        DUE.sentence(TABLE);
        LogStore x = Stores.withKeys(1);
        x.checkpoint();
        x.write(1, 0, 1);
        x.commit(1);
        DUE.is("crash(9)", x.crash(9), 4);
        DUE.is("restart(9), from 1 on", x.restart(9), 5);
        DUE.is("page(0, 0)", x.page(0, 0), 1);
    }

    /** The first restart repeats 5 for page 1; page 0 has its records already and stays clean. */
    private static void namedPageOfAnEarlierRestart() {
        DUE.sentence(TABLE);
        LogStore x = Stores.withKeys(5);
        x.flush(0);
        x.commit(1);
        x.crash(9);
        DUE.is("restart(9)", x.restart(9), 7);
        DUE.is("page(0, 0)", x.page(0, 0), 0);
        DUE.is("checkpoint()", x.checkpoint(), 7);
        DUE.is("crash(9)", x.crash(9), 7);
        DUE.is("restart(9), records 5 to 7", x.restart(9), 4);
        DUE.is("page(0, 0)", x.page(0, 0), -1);
        DUE.is("page(1, 0)", x.page(1, 0), 5);
    }

    private static void changeJustBeforeTheCheckpoint() {
        DUE.sentence(TABLE);
        LogStore x = Stores.withKeys(1);
        x.flush(0);
        x.checkpoint();
        x.commit(1);
        DUE.is("crash(9)", x.crash(9), 3);
        DUE.is("restart(9)", x.restart(9), 1);
        DUE.is("page(0, 0), it is not in the table", x.page(0, 0), -1);
    }

    private static void changeJustAfterTheCheckpoint() {
        DUE.sentence(TABLE);
        LogStore x = Stores.withTransactions(1);
        x.checkpoint();
        x.write(1, 1, 1);
        DUE.is("crash(9)", x.crash(9), 2);
        DUE.is("restart(2)", x.restart(2), 2);
        DUE.is("page(0, 0)", x.page(0, 0), 2);
        DUE.is("restart(9), the undo", x.restart(9), 1);
    }

    private static void clrAfterTheCheckpoint() {
        DUE.sentence(TABLE);
        LogStore x = Stores.withKeys(1);
        x.flush(0);
        x.checkpoint();
        x.abort(1);
        DUE.is("crash(9)", x.crash(9), 3);
        DUE.is("place(0)", x.place(0), 0);
        DUE.is("restart(9), the CLR alone", x.restart(9), 2);
        DUE.is("page(0, 0)", x.page(0, 0), 3);
        DUE.is("place(0)", x.place(0), -1);
    }

    private static void leastOfTheChangesAfterTheCheckpoint() {
        DUE.sentence(TABLE);
        LogStore x = Stores.withKeys(1);
        x.flush(0);
        x.checkpoint();
        x.write(1, 0, 3);
        x.write(1, 0, 4);
        x.commit(1);
        DUE.is("crash(9)", x.crash(9), 5);
        DUE.is("restart(9), records 3 to 5", x.restart(9), 4);
        DUE.is("page(0, 0)", x.page(0, 0), 3);
        DUE.is("stored(0)", x.stored(0), 4);
    }

    private static void fromIsTheLeastRec() {
        DUE.sentence(FROM);
        LogStore x = Stores.withKeys(12);
        x.flush(0);
        x.write(1, 0, 1);
        x.checkpoint();
        x.commit(1);
        DUE.is("crash(99)", x.crash(99), 15);
        DUE.is("restart(99), RECs 13, 5, 9", x.restart(99), 12);
        DUE.is("page(1, 0)", x.page(1, 0), 5);
        DUE.is("page(2, 0)", x.page(2, 0), 9);
        DUE.is("page(0, 0)", x.page(0, 0), 13);
    }

    private static void fromIsAfterTheCheckpoint() {
        DUE.sentence(FROM);
        LogStore x = Stores.withKeys(8);
        x.flush(0);
        x.flush(1);
        x.checkpoint();
        x.commit(1);
        x.force();
        x.begin();
        x.write(2, 4, 2);
        x.write(2, 0, 2);
        x.commit(2);
        DUE.is("crash(99)", x.crash(99), 13);
        DUE.is("restart(99), records 11 to 13", x.restart(99), 4);
        DUE.is("page(1, 0)", x.page(1, 0), 11);
        DUE.is("page(0, 0)", x.page(0, 0), 12);
    }

    private static void emptyTableOfAnEmptyLog() {
        DUE.sentence(REDO);
        LogStore x = new LogStore();
        x.crash(5);
        DUE.is("restart(100)", x.restart(100), 1);
        DUE.is("up()", x.up(), true);
    }

    private static void emptyTableWithRecords() {
        DUE.sentence(REDO);
        LogStore x = Stores.withTransactions(3);
        x.commit(1);
        x.checkpoint();
        x.commit(2);
        DUE.is("crash(5)", x.crash(5), 3);
        DUE.is("restart(100)", x.restart(100), 1);
        DUE.is("state(2)", x.state(2), 4);
        DUE.is("state(3)", x.state(3), 5);
    }

    private static void everyRecordIsAUnit() {
        DUE.sentence(REDO);
        LogStore x = Stores.withKeys(1);
        x.begin();
        x.commit(2);
        x.checkpoint();
        x.abort(1);
        x.begin();
        x.commit(3);
        DUE.is("crash(9)", x.crash(9), 5);
        DUE.is("restart(9), UPDATE, COMMIT, CHECKPOINT, CLR, COMMIT", x.restart(9), 6);
        x.crash(0);
        DUE.is("restart(2)", x.restart(2), 2);
        DUE.is("place(0), by the UPDATE", x.place(0), 0);
        DUE.is("restart(2)", x.restart(2), 2);
        DUE.is("place(0)", x.place(0), 0);
        DUE.is("restart(1)", x.restart(1), 1);
        DUE.is("place(0), by the CLR", x.place(0), -1);
        DUE.is("up()", x.up(), false);
        DUE.is("restart(1)", x.restart(1), 1);
        DUE.is("up()", x.up(), true);
    }

    private static void recordOfJustTheTablesLsn() {
        DUE.sentence(FETCHED);
        LogStore x = Stores.withKeys(1);
        x.crash(1);
        x.restart(1);
        DUE.is("page(0, 0), the analysis fetches nothing", x.page(0, 0), -1);
        DUE.is("restart(1)", x.restart(1), 1);
        DUE.is("page(0, 0)", x.page(0, 0), 1);
    }

    /** The table has page 1 with 5 and page 0, flushed before the checkpoint 7, with 8. */
    private static void recordBeforeTheTablesLsn() {
        DUE.sentence(FETCHED);
        LogStore x = Stores.withKeys(5);
        x.write(1, 0, 1);
        x.flush(0);
        DUE.is("checkpoint()", x.checkpoint(), 7);
        x.write(1, 0, 2);
        x.commit(1);
        DUE.is("crash(9)", x.crash(9), 9);
        DUE.is("restart(4), records 5 to 7", x.restart(4), 4);
        DUE.is("page(0, 0), record 6 is before 8", x.page(0, 0), -1);
        DUE.is("restart(1)", x.restart(1), 1);
        DUE.is("page(0, 0)", x.page(0, 0), 8);
    }

    private static void recordOfAPageOutsideTheTable() {
        DUE.sentence(FETCHED);
        LogStore x = Stores.withKeys(5);
        x.write(1, 0, 1);
        x.flush(0);
        x.checkpoint();
        x.commit(1);
        DUE.is("crash(9)", x.crash(9), 8);
        DUE.is("restart(9), records 5 to 8", x.restart(9), 5);
        DUE.is("page(0, 0), record 6 is of page 0", x.page(0, 0), -1);
        DUE.is("count(2)", x.count(2), 3);
    }

    private static void pageWithALesserLsn() {
        DUE.sentence(REPEATED);
        LogStore x = Stores.withKeys(1);
        x.flush(0);
        x.write(1, 0, 7);
        x.crash(1);
        x.restart(3);
        DUE.is("page(0, 0)", x.page(0, 0), 2);
        DUE.is("page(0, 1)", x.page(0, 1), 2);
        DUE.is("stored(0)", x.stored(0), 7);
    }

    private static void pageWithTheSameLsn() {
        DUE.sentence(REPEATED);
        LogStore x = Stores.withKeys(1);
        x.flush(0);
        x.crash(0);
        x.restart(2);
        DUE.is("page(0, 0), fetched and clean", x.page(0, 0), 0);
        DUE.is("page(0, 1)", x.page(0, 1), 1);
    }

    private static void pageWithAGreaterLsn() {
        DUE.sentence(REPEATED);
        LogStore x = Stores.withKeys(1);
        x.write(1, 0, 7);
        x.flush(0);
        x.crash(0);
        x.restart(2);
        DUE.is("page(0, 0), fetched and clean", x.page(0, 0), 0);
        DUE.is("page(0, 1)", x.page(0, 1), 2);
        DUE.is("stored(0)", x.stored(0), 7);
    }

    private static void redoPutsPagesOut() {
        DUE.sentence(FETCHED);
        LogStore x = Stores.withKeys(12);
        x.force();
        x.write(1, 0, 1);
        x.write(1, 4, 1);
        x.write(1, 12, 1);
        DUE.is("count(3), page 2 left", x.count(3), 1);
        x.crash(3);
        x.restart(13);
        DUE.is("page(0, 0), the first twelve are repeated", x.page(0, 0), 1);
        DUE.is("page(2, 0), it had them", x.page(2, 0), 0);
        x.restart(3);
        DUE.is("page(2, 0), clean, it left again", x.page(2, 0), -1);
        DUE.is("count(3)", x.count(3), 1);
        DUE.is("page(3, 0)", x.page(3, 0), 15);
    }

    private static void nothingToUndo() {
        DUE.sentence(UNDO);
        LogStore x = Stores.withKeys(3);
        x.abort(1);
        DUE.is("crash(6)", x.crash(6), 6);
        DUE.is("restart(100)", x.restart(100), 7);
        DUE.is("count(0)", x.count(0), 6);
    }

    private static void undoGoesDownOverAllTransactions() {
        DUE.sentence(UNDO);
        LogStore x = Stores.withTransactions(3);
        x.write(1, 1, 1);
        x.write(2, 2, 2);
        x.write(3, 3, 3);
        x.write(1, 4, 4);
        x.commit(2);
        DUE.is("crash(5)", x.crash(5), 5);
        DUE.is("restart(6)", x.restart(6), 6);
        int[] gone = {4, 3, 1};
        for (int unit = 0; unit < 3; unit++) {
            DUE.is("stored(" + gone[unit] + ")", x.stored(gone[unit]), gone[unit]);
            DUE.is("restart(1)", x.restart(1), 1);
            DUE.is("place(" + gone[unit] + ")", x.place(gone[unit]), -1);
            DUE.is("page(0, 1), a CLR", x.page(0, 1), 6 + unit);
        }
        DUE.is("stored(2)", x.stored(2), 2);
        DUE.is("up()", x.up(), true);
    }

    private static void undoGoesOnAfterACrash() {
        DUE.sentence(UNDO);
        LogStore x = Stores.withKeys(3);
        x.crash(3);
        DUE.is("restart(5), one was taken back", x.restart(5), 5);
        DUE.is("crash(1), its CLR stays", x.crash(1), 4);
        DUE.is("restart(100), 1 and 4 and 2", x.restart(100), 7);
        DUE.is("count(0)", x.count(0), 6);
    }

    /** The undo's own CLRs come behind the records of the redo, of which there are no more then. */
    private static void undoneIsNotRepeated() {
        DUE.sentence(REDO);
        LogStore x = Stores.withKeys(2);
        x.crash(2);
        DUE.is("restart(5)", x.restart(5), 5);
        DUE.is("up()", x.up(), true);
        DUE.is("restart(1)", x.restart(1), -1);
        DUE.is("count(0)", x.count(0), 4);
    }

    private static void upByTheAnalysis() {
        DUE.sentence(UP);
        LogStore x = Stores.withTransactions(1);
        x.crash(0);
        DUE.is("up()", x.up(), false);
        DUE.is("restart(1)", x.restart(1), 1);
        DUE.is("up()", x.up(), true);
    }

    private static void upByTheLastOfTheRedo() {
        DUE.sentence(UP);
        LogStore x = Stores.withKeys(1);
        x.commit(1);
        x.crash(2);
        DUE.is("restart(2)", x.restart(2), 2);
        DUE.is("up()", x.up(), false);
        DUE.is("restart(1)", x.restart(1), 1);
        DUE.is("up()", x.up(), true);
    }

    private static void upByTheLastOfTheUndo() {
        DUE.sentence(UP);
        LogStore x = Stores.withKeys(1);
        x.crash(1);
        DUE.is("restart(2)", x.restart(2), 2);
        DUE.is("up()", x.up(), false);
        DUE.is("restart(1)", x.restart(1), 1);
        DUE.is("up()", x.up(), true);
    }

    private static void doubtEndsWithTheLastUnit() {
        DUE.sentence(DOUBT);
        LogStore x = Stores.withKeys(1);
        x.begin();
        x.commit(2);
        x.crash(2);
        DUE.is("restart(3)", x.restart(3), 3);
        DUE.is("state(1)", x.state(1), 6);
        DUE.is("state(2)", x.state(2), 6);
        DUE.is("restart(1)", x.restart(1), 1);
        DUE.is("state(1)", x.state(1), 5);
        DUE.is("state(2)", x.state(2), 4);
    }

    private static void doubtIsDecidedByTheLog() {
        DUE.sentence(DOUBT);
        LogStore x = Stores.withTransactions(3);
        x.commit(1);
        x.commit(2);
        DUE.is("crash(1), the COMMIT of 2 is lost", x.crash(1), 1);
        DUE.is("restart(9)", x.restart(9), 1);
        DUE.is("state(1)", x.state(1), 4);
        DUE.is("state(2)", x.state(2), 5);
        DUE.is("state(3)", x.state(3), 5);
    }

    private static void whoWasAbortedBeforeStaysSo() {
        DUE.sentence(DOUBT);
        LogStore x = Stores.withKeys(1);
        x.abort(1);
        x.begin();
        x.commit(2);
        x.force();
        DUE.is("crash(0)", x.crash(0), 3);
        DUE.is("state(1)", x.state(1), 5);
        DUE.is("state(2)", x.state(2), 4);
        x.restart(9);
        DUE.is("state(1)", x.state(1), 5);
        DUE.is("state(2)", x.state(2), 4);
    }

    private static void otherCallsWhileDown() {
        DUE.sentence("Calls other than those that look, crash and restart are refused while the "
            + "store is down");
        LogStore x = Stores.withKeys(2);
        x.crash(2);
        for (int unit = 1; unit <= 5; unit++) {
            DUE.is("begin() before unit " + unit, x.begin(), -1);
            DUE.is("read(1, 0) before unit " + unit, x.read(1, 0), -1);
            DUE.is("write(1, 0, 1) before unit " + unit, x.write(1, 0, 1), -1);
            DUE.is("commit(1) before unit " + unit, x.commit(1), false);
            DUE.is("abort(1) before unit " + unit, x.abort(1), false);
            DUE.is("force() before unit " + unit, x.force(), false);
            DUE.is("checkpoint() before unit " + unit, x.checkpoint(), -1);
            DUE.is("flush(0) before unit " + unit, x.flush(0), false);
            DUE.is("restart(1)", x.restart(1), 1);
        }
        DUE.is("force()", x.force(), true);
        DUE.is("flush(0)", x.flush(0), true);
        DUE.is("checkpoint()", x.checkpoint(), 5);
        DUE.is("begin()", x.begin(), 2);
    }

    private static void looksWhileDown() {
        DUE.sentence("calls that look answer then as they do else, where nothing else is said.");
        LogStore x = Stores.withKeys(5);
        x.read(1, 1);
        x.flush(0);
        x.begin();
        x.write(2, 0, 2);
        x.crash(1);
        DUE.is("up()", x.up(), false);
        DUE.is("state(1)", x.state(1), 6);
        DUE.is("outcome(1)", x.outcome(1), 0);
        DUE.is("outcome(2)", x.outcome(2), 1);
        DUE.is("value(1)", x.value(1), 101);
        DUE.is("stored(3)", x.stored(3), 103);
        DUE.is("place(3)", x.place(3), 3);
        DUE.is("place(4)", x.place(4), -1);
        DUE.is("count(0)", x.count(0), 5);
        DUE.is("count(1)", x.count(1), 5);
        DUE.is("count(2)", x.count(2), 2);
        DUE.is("count(3)", x.count(3), 1);
        DUE.is("page(0, 0)", x.page(0, 0), -1);
        DUE.is("page(0, 1)", x.page(0, 1), -1);
        DUE.is("page(0, 2)", x.page(0, 2), 4);
        DUE.is("after(-1), else it is said", x.after(-1), -1);
    }
}
