/** Promises 10 and 11: crash and restart, with the restart's analysis, redo and undo. */
public final class CrashTest {
    private static final Due DUE = new Due("CrashTest");

    public static void main(String[] args) {
        crashKeepsSoMuch();
        crashIsRefused();
        crashEmptiesPoolAndLocks();
        restartIsRefused();
        restartOfAnEmptyLog();
        unitsAreCounted();
        commitDecidesDoubt();
        checkpointNamesDirtyPages();
        checkpointOfCleanPages();
        pagesOutsideTheTableAreLeft();
        lostCheckpointDoesNotCount();
        redoStopsAtWhatThePageHas();
        redoRepeatsTakingBack();
        undoGoesDownOverAll();
        lostClrsAreMadeAgain();
        crashInTheUndo();
        crashInTheRedo();
        restartPutsPagesOut();
        lsnsAreUsedAgain();
        theLsnOfALostClrIsUsedAgain();
        theLongestLog();
        DUE.end();
    }

    private static void crashKeepsSoMuch() {
        DUE.promise("10 crash");
        LogStore x = Stores.withKeys(4);
        x.flush(0);
        x.write(1, 0, 1);
        x.write(1, 1, 1);
        x.write(1, 2, 1);
        DUE.is("crash(2)", x.crash(2), 6);
        DUE.is("count(0)", x.count(0), 6);
        DUE.is("count(1)", x.count(1), 6);
        DUE.is("up()", x.up(), false);
        DUE.is("crash(5), no more are there", x.crash(5), 6);
        x = Stores.withKeys(3);
        DUE.is("crash(0)", x.crash(0), 0);
        x = Stores.withKeys(3);
        DUE.is("crash(3)", x.crash(3), 3);
        x = Stores.withKeys(3);
        x.force();
        x.write(1, 5, 5);
        DUE.is("crash(MAX)", x.crash(Integer.MAX_VALUE), 4);
        DUE.is("new LogStore().crash(1)", new LogStore().crash(1), 0);
    }

    private static void crashIsRefused() {
        DUE.promise("10 crash, refused");
        LogStore x = Stores.withKeys(3);
        DUE.is("crash(-1)", x.crash(-1), -1);
        DUE.is("crash(MIN)", x.crash(Integer.MIN_VALUE), -1);
        DUE.is("up()", x.up(), true);
        DUE.is("count(1)", x.count(1), 0);
        for (int crash = 1; crash <= 8; crash++) {
            DUE.is("crash(1)", x.crash(1), 1);
            if (crash % 2 == 0 && crash < 8) {
                x.restart(1);
            }
        }
        DUE.is("crash(1) the ninth, down", x.crash(1), -1);
        DUE.is("restart(100)", x.restart(100), 3);
        DUE.is("up()", x.up(), true);
        DUE.is("crash(1) the ninth, up", x.crash(1), -1);
        DUE.is("up()", x.up(), true);
        DUE.is("count(1)", x.count(1), 1);
    }

    private static void crashEmptiesPoolAndLocks() {
        DUE.promise("10 crash, pool and locks");
        LogStore x = Stores.withKeys(5);
        x.commit(1);
        x.force();
        x.begin();
        x.begin();
        x.write(2, 0, 1);
        x.write(3, 0, 2);
        DUE.is("crash(0)", x.crash(0), 6);
        DUE.is("count(3), nothing was written", x.count(3), 0);
        DUE.is("page(0, 0)", x.page(0, 0), -1);
        DUE.is("page(1, 0)", x.page(1, 0), -1);
        DUE.is("stored(0), the disk has nothing", x.stored(0), 0);
        DUE.is("restart(100)", x.restart(100), 7);
        DUE.is("stored(0)", x.stored(0), 100);
        DUE.is("state(3)", x.state(3), 5);
        DUE.is("outcome(3), it was not granted", x.outcome(3), 1);
        x.begin();
        DUE.is("write(4, 0, 4), no lock is left", x.write(4, 0, 4), 0);
    }

    private static void restartIsRefused() {
        DUE.promise("11 restart, refused");
        LogStore x = Stores.withKeys(2);
        DUE.is("restart(1) while up", x.restart(1), -1);
        x.crash(2);
        for (int n : new int[] {0, -1, 101, Integer.MIN_VALUE, Integer.MAX_VALUE}) {
            DUE.is("restart(" + n + ")", x.restart(n), -1);
        }
        DUE.is("up()", x.up(), false);
        DUE.is("restart(100)", x.restart(100), 5);
        DUE.is("restart(100) while up", x.restart(100), -1);
    }

    private static void restartOfAnEmptyLog() {
        DUE.promise("11 restart, nothing to do");
        LogStore x = new LogStore();
        x.begin();
        x.crash(0);
        DUE.is("restart(5)", x.restart(5), 1);
        DUE.is("up()", x.up(), true);
        DUE.is("state(1)", x.state(1), 5);
        x.begin();
        x.commit(2);
        DUE.is("checkpoint()", x.checkpoint(), 2);
        DUE.is("crash(2)", x.crash(2), 2);
        DUE.is("restart(5), no page in the table", x.restart(5), 1);
        DUE.is("state(2)", x.state(2), 4);
    }

    private static void unitsAreCounted() {
        DUE.promise("11 restart, unit by unit");
        LogStore x = Stores.withKeys(2);
        x.crash(2);
        int[] records = {2, 2, 2, 3, 4};
        for (int unit = 1; unit <= 5; unit++) {
            DUE.is("up() before unit " + unit, x.up(), false);
            DUE.is("restart(1)", x.restart(1), 1);
            DUE.is("count(0) after unit " + unit, x.count(0), records[unit - 1]);
            DUE.is("page(0, 1) after unit " + unit, x.page(0, 1), unit == 1 ? -1 : unit - 1);
            DUE.is("place(1) after unit " + unit, x.place(1), unit == 3 ? 1 : -1);
        }
        DUE.is("up()", x.up(), true);
        DUE.is("count(1), the CLRs are not stable", x.count(1), 2);
        DUE.is("place(0)", x.place(0), -1);
        DUE.is("state(1)", x.state(1), 5);
    }

    private static void commitDecidesDoubt() {
        DUE.promise("11 restart, in doubt");
        LogStore x = Stores.withKeys(2);
        x.begin();
        x.write(2, 5, 50);
        x.commit(2);
        x.write(1, 6, 60);
        x.commit(1);
        DUE.is("crash(5), the COMMIT of 1 is lost", x.crash(5), 5);
        DUE.is("state(1)", x.state(1), 6);
        DUE.is("state(2)", x.state(2), 6);
        DUE.is("restart(100)", x.restart(100), 9);
        DUE.is("state(1)", x.state(1), 5);
        DUE.is("state(2)", x.state(2), 4);
        DUE.is("stored(5)", x.stored(5), 50);
        DUE.is("place(0)", x.place(0), -1);
        DUE.is("place(6)", x.place(6), -1);
    }

    private static void checkpointNamesDirtyPages() {
        DUE.promise("11 restart, from the checkpoint's least REC");
        LogStore x = Stores.withKeys(9);
        x.flush(0);
        x.checkpoint();
        x.write(1, 4, 1);
        x.write(1, 0, 1);
        x.commit(1);
        DUE.is("crash(9)", x.crash(9), 13);
        DUE.is("restart(1)", x.restart(1), 1);
        DUE.is("restart(3), records 5 to 7", x.restart(3), 3);
        DUE.is("page(1, 1)", x.page(1, 1), 7);
        DUE.is("page(1, 0)", x.page(1, 0), 5);
        DUE.is("page(0, 0)", x.page(0, 0), -1);
        DUE.is("restart(5), up to record 12", x.restart(5), 5);
        DUE.is("page(0, 0), from 12 on, as it was clean", x.page(0, 0), 12);
        DUE.is("up()", x.up(), false);
        DUE.is("restart(100), the COMMIT", x.restart(100), 1);
        DUE.is("stored(0)", x.stored(0), 1);
        DUE.is("stored(3)", x.stored(3), 103);
        DUE.is("stored(4)", x.stored(4), 1);
    }

    private static void checkpointOfCleanPages() {
        DUE.promise("11 restart, a checkpoint without dirty pages");
        LogStore x = Stores.withKeys(5);
        x.checkpoint();
        x.flush(0);
        x.flush(1);
        x.checkpoint();
        DUE.is("crash(9)", x.crash(9), 7);
        DUE.is("restart(1), the table is empty", x.restart(1), 1);
        DUE.is("up(), there is something to undo", x.up(), false);
        DUE.is("restart(100)", x.restart(100), 5);
        DUE.is("count(0)", x.count(0), 12);
        DUE.is("place(0)", x.place(0), -1);
        DUE.is("after(-1)", x.after(-1), -1);
    }

    /** Page 1 is dirty from record 5 on; page 0 was flushed between that and the checkpoint. */
    private static void pagesOutsideTheTableAreLeft() {
        DUE.promise("11 restart, a record of a page that is not in the table");
        LogStore x = Stores.withKeys(5);
        x.write(1, 0, 1);
        x.flush(0);
        x.checkpoint();
        x.commit(1);
        DUE.is("crash(9)", x.crash(9), 8);
        DUE.is("restart(100), FROM is 5", x.restart(100), 5);
        DUE.is("page(0, 0)", x.page(0, 0), -1);
        DUE.is("page(1, 0)", x.page(1, 0), 5);
        DUE.promise("11 restart, a record before its page's LSN in the table");
        x = Stores.withKeys(5);
        x.write(1, 0, 1);
        x.flush(0);
        x.checkpoint();
        x.write(1, 0, 2);
        x.commit(1);
        DUE.is("crash(9)", x.crash(9), 9);
        DUE.is("restart(4), up to record 7", x.restart(4), 4);
        DUE.is("page(0, 0)", x.page(0, 0), -1);
        DUE.is("restart(1)", x.restart(1), 1);
        DUE.is("page(0, 0)", x.page(0, 0), 8);
        DUE.promise("11 restart, a record just before the checkpoint");
        x = Stores.withKeys(1);
        x.flush(0);
        x.checkpoint();
        DUE.is("crash(9)", x.crash(9), 2);
        DUE.is("restart(100), the analysis and the undo", x.restart(100), 2);
        DUE.is("place(0)", x.place(0), -1);
    }

    private static void lostCheckpointDoesNotCount() {
        DUE.promise("11 restart, a checkpoint that was lost");
        LogStore x = Stores.withKeys(5);
        x.checkpoint();
        x.flush(0);
        x.commit(1);
        x.force();
        x.flush(1);
        x.checkpoint();
        DUE.is("crash(0)", x.crash(0), 7);
        DUE.is("restart(100), FROM is 1 by the first one", x.restart(100), 8);
        DUE.is("count(2)", x.count(2), 4);
        DUE.is("count(3)", x.count(3), 2);
        DUE.is("page(0, 0), nothing was applied", x.page(0, 0), 0);
        DUE.is("stored(4)", x.stored(4), 104);
    }

    private static void redoStopsAtWhatThePageHas() {
        DUE.promise("11 restart, redo");
        LogStore x = Stores.withKeys(1);
        x.write(1, 0, 1);
        x.flush(0);
        x.write(1, 0, 2);
        x.write(1, 0, 3);
        x.commit(1);
        x.crash(3);
        DUE.is("restart(3)", x.restart(3), 3);
        DUE.is("page(0, 0), it has records 1 and 2", x.page(0, 0), 0);
        DUE.is("stored(0)", x.stored(0), 1);
        DUE.is("restart(1)", x.restart(1), 1);
        DUE.is("page(0, 0)", x.page(0, 0), 3);
        DUE.is("stored(0)", x.stored(0), 2);
        DUE.is("restart(1)", x.restart(1), 1);
        DUE.is("stored(0)", x.stored(0), 3);
        DUE.is("page(0, 0)", x.page(0, 0), 3);
        DUE.is("up()", x.up(), false);
        DUE.is("restart(1)", x.restart(1), 1);
        DUE.is("up()", x.up(), true);
    }

    private static void redoRepeatsTakingBack() {
        DUE.promise("11 restart, redo of CLRs");
        LogStore x = Stores.withKeys(2);
        x.commit(1);
        x.force();
        x.begin();
        x.write(2, 0, 1);
        x.write(2, 9, 9);
        x.abort(2);
        DUE.is("crash(9)", x.crash(9), 7);
        DUE.is("restart(6)", x.restart(6), 6);
        DUE.is("stored(0)", x.stored(0), 1);
        DUE.is("place(9)", x.place(9), 2);
        DUE.is("restart(1)", x.restart(1), 1);
        DUE.is("place(9)", x.place(9), -1);
        DUE.is("restart(1)", x.restart(1), 1);
        DUE.is("stored(0)", x.stored(0), 100);
        DUE.is("up(), there is nothing to undo", x.up(), true);
        DUE.is("count(0)", x.count(0), 7);
        DUE.is("page(0, 1)", x.page(0, 1), 7);
    }

    private static void undoGoesDownOverAll() {
        DUE.promise("11 restart, undo");
        LogStore x = Stores.withKeys(1);
        x.begin();
        x.begin();
        x.write(2, 1, 20);
        x.write(3, 2, 30);
        x.write(1, 3, 10);
        x.write(2, 1, 21);
        x.commit(3);
        x.crash(6);
        DUE.is("restart(7)", x.restart(7), 7);
        DUE.is("stored(1)", x.stored(1), 21);
        DUE.is("restart(1), record 5", x.restart(1), 1);
        DUE.is("stored(1)", x.stored(1), 20);
        DUE.is("restart(1), record 4", x.restart(1), 1);
        DUE.is("place(3)", x.place(3), -1);
        DUE.is("stored(1)", x.stored(1), 20);
        DUE.is("restart(1), record 2", x.restart(1), 1);
        DUE.is("place(1)", x.place(1), -1);
        DUE.is("stored(0)", x.stored(0), 100);
        DUE.is("up()", x.up(), false);
        DUE.is("restart(9), record 1", x.restart(9), 1);
        DUE.is("place(0)", x.place(0), -1);
        DUE.is("stored(2), committed", x.stored(2), 30);
        DUE.is("count(0)", x.count(0), 10);
    }

    private static void lostClrsAreMadeAgain() {
        DUE.promise("11 restart, an abort whose CLRs were lost");
        LogStore x = Stores.withKeys(3);
        x.abort(1);
        DUE.is("count(0)", x.count(0), 6);
        DUE.is("crash(4), one CLR is kept", x.crash(4), 4);
        DUE.is("state(1), it was aborted before", x.state(1), 5);
        DUE.is("restart(5)", x.restart(5), 5);
        DUE.is("place(2)", x.place(2), -1);
        DUE.is("place(1)", x.place(1), 1);
        DUE.is("restart(100)", x.restart(100), 2);
        DUE.is("after(-1)", x.after(-1), -1);
        DUE.is("state(1)", x.state(1), 5);
        DUE.is("count(0)", x.count(0), 6);
    }

    private static void crashInTheUndo() {
        DUE.promise("10 crash in the undo");
        LogStore x = Stores.withKeys(3);
        x.crash(3);
        DUE.is("restart(6), two were taken back", x.restart(6), 6);
        DUE.is("count(0)", x.count(0), 5);
        DUE.is("crash(1), one CLR is kept", x.crash(1), 4);
        DUE.is("state(1)", x.state(1), 6);
        DUE.is("page(0, 0)", x.page(0, 0), -1);
        DUE.is("restart(100), 1 and 4 and 2 units", x.restart(100), 7);
        DUE.is("count(0)", x.count(0), 6);
        DUE.is("crash(0)", x.crash(0), 4);
        DUE.is("restart(100)", x.restart(100), 7);
        DUE.is("crash(2)", x.crash(2), 6);
        DUE.is("restart(100), all is taken back", x.restart(100), 7);
        DUE.is("count(0)", x.count(0), 6);
        DUE.is("state(1)", x.state(1), 5);
        DUE.is("after(-1)", x.after(-1), -1);
    }

    private static void crashInTheRedo() {
        DUE.promise("10 crash in the redo");
        LogStore x = Stores.withKeys(6);
        x.commit(1);
        x.force();
        x.crash(0);
        DUE.is("restart(6)", x.restart(6), 6);
        DUE.is("stored(4)", x.stored(4), 104);
        DUE.is("crash(0)", x.crash(0), 7);
        DUE.is("stored(4)", x.stored(4), 0);
        DUE.is("restart(1), the analysis again", x.restart(1), 1);
        DUE.is("stored(0)", x.stored(0), 0);
        DUE.is("restart(100)", x.restart(100), 7);
        DUE.is("stored(4)", x.stored(4), 104);
        DUE.is("state(1)", x.state(1), 4);
    }

    private static void restartPutsPagesOut() {
        DUE.promise("11 restart, pages leave the pool");
        LogStore x = Stores.withKeys(13);
        x.force();
        x.crash(0);
        DUE.is("count(3)", x.count(3), 1);
        DUE.is("restart(14)", x.restart(14), 14);
        DUE.is("page(0, 0), clean and gone", x.page(0, 0), -1);
        DUE.is("page(1, 0)", x.page(1, 0), 5);
        DUE.is("page(3, 0)", x.page(3, 0), 13);
        DUE.is("count(3), page 0 was clean", x.count(3), 1);
        DUE.is("count(1)", x.count(1), 13);
        DUE.is("restart(100)", x.restart(100), 13);
        DUE.is("count(3), page 3 was written", x.count(3), 2);
        DUE.is("count(1), up to its CLR", x.count(1), 14);
        DUE.is("count(0)", x.count(0), 26);
        DUE.is("page(3, 2)", x.page(3, 2), 14);
        DUE.is("page(0, 0)", x.page(0, 0), 23);
        DUE.is("crash(0)", x.crash(0), 14);
        DUE.is("restart(100)", x.restart(100), 27);
        DUE.is("after(-1)", x.after(-1), -1);
    }

    private static void lsnsAreUsedAgain() {
        DUE.promise("10 crash, what is lost stays lost");
        LogStore x = Stores.withKeys(2);
        x.commit(1);
        x.crash(1);
        DUE.is("restart(100)", x.restart(100), 3);
        DUE.is("count(0)", x.count(0), 2);
        x.begin();
        DUE.is("write(2, 7, 70)", x.write(2, 7, 70), 0);
        DUE.is("page(0, 1)", x.page(0, 1), 3);
        DUE.is("place(7)", x.place(7), 0);
        x.commit(2);
        x.force();
        x.crash(0);
        DUE.is("restart(100)", x.restart(100), 5);
        DUE.is("stored(7)", x.stored(7), 70);
        DUE.is("state(1)", x.state(1), 5);
        DUE.is("state(2)", x.state(2), 4);
        DUE.is("after(-1)", x.after(-1), 7);
    }

    private static void theLsnOfALostClrIsUsedAgain() {
        DUE.promise("10 crash, an UPDATE with the LSN of a CLR that was lost");
        LogStore x = Stores.withKeys(1);
        x.commit(1);
        x.force();
        x.begin();
        x.write(2, 0, 1);
        x.force();
        x.abort(2);
        DUE.is("crash(0), the CLR 4 is lost", x.crash(0), 3);
        x.restart(100);
        x.begin();
        x.crash(0);
        x.restart(3);
        DUE.is("crash(0)", x.crash(0), 3);
        DUE.is("restart(100), CLR 4 again", x.restart(100), 5);
        x.force();
        x.begin();
        x.write(4, 0, 2);
        x.abort(4);
        DUE.is("crash(1), UPDATE 5 stays, CLR 6 is lost", x.crash(1), 5);
        x.restart(5);
        DUE.is("restart(100), it is repeated and taken back", x.restart(100), 2);
        DUE.is("crash(0), CLR 6 is lost again", x.crash(0), 5);
        DUE.is("restart(7)", x.restart(7), 7);
        DUE.is("stored(0)", x.stored(0), 100);
        DUE.is("crash(1)", x.crash(1), 6);
        x.restart(100);
        x.begin();
        x.write(5, 0, 3);
        x.abort(5);
        DUE.is("count(0)", x.count(0), 8);
        DUE.is("crash(0), UPDATE 7 and CLR 8 are lost", x.crash(0), 6);
        x.restart(100);
        x.begin();
        x.commit(6);
        x.begin();
        DUE.is("write(7, 0, 4), UPDATE 8", x.write(7, 0, 4), 0);
        DUE.is("page(0, 1)", x.page(0, 1), 8);
        DUE.is("abort(7)", x.abort(7), true);
        DUE.is("count(0), it was open", x.count(0), 9);
        DUE.is("stored(0)", x.stored(0), 100);
    }

    /** 60 UPDATEs, as many CLRs, the COMMITs of all others, 20 CHECKPOINTs. */
    private static void theLongestLog() {
        DUE.promise("11 restart, the longest log");
        LogStore x = new LogStore();
        for (int lsn = 1; lsn <= 20; lsn++) {
            DUE.is("checkpoint()", x.checkpoint(), lsn);
        }
        for (int t = 1; t <= 59; t++) {
            DUE.is("begin()", x.begin(), t);
            DUE.is("commit(" + t + ")", x.commit(t), true);
            x.force();
        }
        DUE.is("begin()", x.begin(), 60);
        for (int i = 1; i <= 60; i++) {
            DUE.is("write(60, 1, " + i + ")", x.write(60, 1, i), 0);
        }
        DUE.is("abort(60)", x.abort(60), true);
        DUE.is("count(0)", x.count(0), 199);
        DUE.is("crash(130)", x.crash(130), 199);
        DUE.is("restart(100)", x.restart(100), 100);
        DUE.is("restart(100)", x.restart(100), 21);
        DUE.is("up()", x.up(), true);
        DUE.is("count(0)", x.count(0), 199);
        DUE.is("state(59)", x.state(59), 4);
        DUE.is("state(60)", x.state(60), 5);
        DUE.is("place(1)", x.place(1), -1);
    }
}
