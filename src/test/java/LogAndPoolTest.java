/** Promises 7, 8, 9, 19 and 20: force, checkpoint, flush, count, page; with the pool. */
public final class LogAndPoolTest {
    private static final Due DUE = new Due("LogAndPoolTest");

    public static void main(String[] args) {
        forceMakesAllStable();
        checkpointsAreNumbered();
        atMostTwentyCheckpoints();
        flushWritesADirtyPage();
        flushIsRefused();
        countAnswersFourThings();
        pageAnswersThreeThings();
        poolPutsTheOldestOut();
        aFetchMakesYoungAgain();
        cleanPagesLeaveUnwritten();
        onlySoMuchOfTheLogIsStable();
        abortFetchesPages();
        DUE.end();
    }

    private static void forceMakesAllStable() {
        DUE.promise("7 force");
        LogStore x = Stores.withKeys(2);
        DUE.is("count(1)", x.count(1), 0);
        DUE.is("force()", x.force(), true);
        DUE.is("count(1)", x.count(1), 2);
        DUE.is("count(3), no page is written", x.count(3), 0);
        DUE.is("page(0, 0), the page stays dirty", x.page(0, 0), 1);
        DUE.is("force() again", x.force(), true);
        DUE.is("count(1)", x.count(1), 2);
        x.checkpoint();
        x.commit(1);
        x.force();
        DUE.is("count(1)", x.count(1), 4);
        DUE.is("state(1)", x.state(1), 4);
        x.crash(0);
        DUE.is("force() while down", x.force(), false);
        x.restart(1);
        DUE.is("force() in the restart", x.force(), false);
        x.restart(100);
        DUE.is("force() when up", x.force(), true);
        DUE.is("new LogStore().force()", new LogStore().force(), true);
    }

    private static void checkpointsAreNumbered() {
        DUE.promise("8 checkpoint");
        LogStore x = new LogStore();
        DUE.is("checkpoint()", x.checkpoint(), 1);
        x.begin();
        x.write(1, 1, 1);
        DUE.is("checkpoint()", x.checkpoint(), 3);
        DUE.is("count(0)", x.count(0), 3);
        DUE.is("count(1), it forces nothing", x.count(1), 0);
        DUE.is("count(3), it writes nothing", x.count(3), 0);
        DUE.is("page(0, 0)", x.page(0, 0), 2);
        x.crash(0);
        DUE.is("checkpoint() while down", x.checkpoint(), -1);
        DUE.is("count(0)", x.count(0), 0);
    }

    private static void atMostTwentyCheckpoints() {
        DUE.promise("8 checkpoint, twenty in the log");
        LogStore x = new LogStore();
        for (int lsn = 1; lsn <= 20; lsn++) {
            DUE.is("checkpoint()", x.checkpoint(), lsn);
        }
        DUE.is("checkpoint() the 21st", x.checkpoint(), -1);
        DUE.is("count(0)", x.count(0), 20);
        DUE.is("crash(18)", x.crash(18), 18);
        x.restart(100);
        DUE.is("checkpoint(), two were lost", x.checkpoint(), 19);
        DUE.is("checkpoint()", x.checkpoint(), 20);
        DUE.is("checkpoint() the 21st", x.checkpoint(), -1);
    }

    private static void flushWritesADirtyPage() {
        DUE.promise("9 flush");
        LogStore x = Stores.withKeys(6);
        x.write(1, 0, 7);
        DUE.is("flush(1)", x.flush(1), true);
        DUE.is("count(1), up to the page's LSN", x.count(1), 6);
        DUE.is("count(3)", x.count(3), 1);
        DUE.is("page(1, 0), clean", x.page(1, 0), 0);
        DUE.is("page(1, 1)", x.page(1, 1), 6);
        DUE.is("page(1, 2)", x.page(1, 2), 6);
        DUE.is("page(0, 0), still dirty", x.page(0, 0), 1);
        DUE.is("page(0, 2)", x.page(0, 2), 0);
        DUE.is("flush(1), clean", x.flush(1), false);
        DUE.is("flush(0)", x.flush(0), true);
        DUE.is("count(1)", x.count(1), 7);
        DUE.is("count(3)", x.count(3), 2);
        x.write(1, 0, 8);
        DUE.is("page(0, 0), dirty again since", x.page(0, 0), 8);
        x.crash(0);
        DUE.is("stored(0), the disk has what was flushed", x.stored(0), 7);
        DUE.is("stored(5)", x.stored(5), 105);
    }

    private static void flushIsRefused() {
        DUE.promise("9 flush, refused");
        LogStore x = Stores.withKeys(13);
        DUE.is("flush(0), which left the pool", x.flush(0), false);
        for (int page : new int[] {-1, 4, 5, 6, Integer.MIN_VALUE, Integer.MAX_VALUE}) {
            DUE.is("flush(" + page + ")", x.flush(page), false);
        }
        DUE.is("read(1, 0)", x.read(1, 0), 0);
        DUE.is("flush(0), in the pool and clean", x.flush(0), false);
        DUE.is("count(3)", x.count(3), 2);
        DUE.is("flush(3)", x.flush(3), true);
        x.crash(0);
        DUE.is("flush(2) while down", x.flush(2), false);
        x.restart(100);
        DUE.is("up()", x.up(), true);
        x = Stores.withKeys(1);
        x.crash(1);
        x.restart(2);
        DUE.is("page(0, 0), dirty in the restart", x.page(0, 0), 1);
        DUE.is("flush(0) in the restart", x.flush(0), false);
        DUE.is("page(0, 0)", x.page(0, 0), 1);
    }

    private static void countAnswersFourThings() {
        DUE.promise("19 count");
        LogStore x = Stores.withKeys(17);
        DUE.is("count(0)", x.count(0), 17);
        DUE.is("count(1), pages 0 and 1 were written", x.count(1), 8);
        DUE.is("count(2)", x.count(2), 5);
        DUE.is("count(3)", x.count(3), 2);
        for (int what : new int[] {-1, 4, Integer.MIN_VALUE, Integer.MAX_VALUE}) {
            DUE.is("count(" + what + ")", x.count(what), -1);
        }
        x.crash(1);
        DUE.is("count(0) while down", x.count(0), 9);
        DUE.is("count(1)", x.count(1), 9);
        DUE.is("count(2), since the beginning", x.count(2), 5);
        DUE.is("count(3)", x.count(3), 2);
        DUE.is("restart(100)", x.restart(100), 19);
        DUE.is("count(0)", x.count(0), 18);
        DUE.is("count(1)", x.count(1), 9);
        DUE.is("count(2), by the restart, too", x.count(2), 8);
        DUE.is("count(3)", x.count(3), 2);
    }

    private static void pageAnswersThreeThings() {
        DUE.promise("20 page");
        LogStore x = Stores.withKeys(5);
        x.write(1, 1, 1);
        DUE.is("page(0, 0)", x.page(0, 0), 1);
        DUE.is("page(0, 1)", x.page(0, 1), 6);
        DUE.is("page(0, 2)", x.page(0, 2), 0);
        DUE.is("page(1, 0)", x.page(1, 0), 5);
        DUE.is("page(1, 1)", x.page(1, 1), 5);
        DUE.is("page(5, 0)", x.page(5, 0), -1);
        DUE.is("page(5, 1)", x.page(5, 1), -1);
        DUE.is("page(5, 2)", x.page(5, 2), 0);
        for (int what : new int[] {-1, 3, Integer.MIN_VALUE, Integer.MAX_VALUE}) {
            DUE.is("page(0, " + what + ")", x.page(0, what), -1);
        }
        for (int page : new int[] {-1, 6, Integer.MIN_VALUE, Integer.MAX_VALUE}) {
            for (int what = 0; what <= 2; what++) {
                DUE.is("page(" + page + ", " + what + ")", x.page(page, what), -1);
            }
        }
        x.flush(0);
        DUE.is("page(0, 0)", x.page(0, 0), 0);
        DUE.is("page(0, 2)", x.page(0, 2), 6);
        x.crash(0);
        DUE.is("page(0, 0) while down", x.page(0, 0), -1);
        DUE.is("page(0, 1)", x.page(0, 1), -1);
        DUE.is("page(0, 2)", x.page(0, 2), 6);
        DUE.is("restart(2)", x.restart(2), 2);
        DUE.is("page(0, 0), fetched and not applied", x.page(0, 0), 0);
        DUE.is("page(0, 1)", x.page(0, 1), 6);
        DUE.is("page(1, 0)", x.page(1, 0), -1);
    }

    private static void poolPutsTheOldestOut() {
        DUE.promise("20 page, the oldest leaves");
        LogStore x = Stores.withKeys(12);
        DUE.is("count(3)", x.count(3), 0);
        for (int page = 0; page <= 2; page++) {
            DUE.is("page(" + page + ", 0)", x.page(page, 0), 4 * page + 1);
        }
        x.write(1, 12, 1);
        DUE.is("page(0, 0)", x.page(0, 0), -1);
        DUE.is("page(0, 2)", x.page(0, 2), 4);
        DUE.is("page(1, 0)", x.page(1, 0), 5);
        DUE.is("page(2, 0)", x.page(2, 0), 9);
        DUE.is("page(3, 0)", x.page(3, 0), 13);
        DUE.is("count(3)", x.count(3), 1);
        DUE.is("stored(0), seen on the disk", x.stored(0), 100);
        DUE.is("page(0, 0), nothing was fetched for that", x.page(0, 0), -1);
    }

    private static void aFetchMakesYoungAgain() {
        DUE.promise("20 page, a page that is fetched again");
        LogStore x = Stores.withKeys(12);
        DUE.is("read(1, 0)", x.read(1, 0), 0);
        x.write(1, 12, 1);
        DUE.is("page(1, 0), oldest now", x.page(1, 0), -1);
        DUE.is("page(0, 0)", x.page(0, 0), 1);
        x.write(1, 8, 2);
        DUE.is("page(2, 0), the REC stays", x.page(2, 0), 9);
        DUE.is("page(2, 1)", x.page(2, 1), 14);
        x.read(1, 4);
        DUE.is("page(0, 0)", x.page(0, 0), -1);
        DUE.is("page(2, 0)", x.page(2, 0), 9);
        DUE.is("page(1, 0)", x.page(1, 0), 0);
        DUE.is("count(2)", x.count(2), 5);
    }

    private static void cleanPagesLeaveUnwritten() {
        DUE.promise("19 count, clean pages are not written");
        LogStore x = Stores.withKeys(12);
        x.flush(0);
        DUE.is("count(3)", x.count(3), 1);
        x.write(1, 12, 1);
        DUE.is("page(0, 0)", x.page(0, 0), -1);
        DUE.is("count(3)", x.count(3), 1);
        DUE.is("count(1)", x.count(1), 4);
    }

    private static void onlySoMuchOfTheLogIsStable() {
        DUE.promise("19 count, stable up to the page's LSN");
        LogStore x = Stores.withKeys(4);
        x.force();
        x.write(1, 4, 1);
        x.write(1, 5, 1);
        x.write(1, 0, 1);
        x.write(1, 6, 1);
        DUE.is("flush(0)", x.flush(0), true);
        DUE.is("count(1)", x.count(1), 7);
        x.force();
        DUE.is("flush(1), all of it is stable already", x.flush(1), true);
        DUE.is("count(1), it never grows less", x.count(1), 8);
        DUE.is("count(0)", x.count(0), 8);
    }

    private static void abortFetchesPages() {
        DUE.promise("6 abort, the greatest LSN first");
        LogStore x = Stores.withKeys(13);
        DUE.is("abort(1)", x.abort(1), true);
        DUE.is("count(0)", x.count(0), 26);
        DUE.is("count(2), page 0 came back", x.count(2), 5);
        DUE.is("count(3), pages 0 and 3 were written", x.count(3), 2);
        DUE.is("count(1), up to the CLR of the place 12", x.count(1), 14);
        DUE.is("page(3, 0), left to make room for page 0", x.page(3, 0), -1);
        DUE.is("page(3, 2)", x.page(3, 2), 14);
        DUE.is("page(2, 0)", x.page(2, 0), 9);
        DUE.is("page(2, 1)", x.page(2, 1), 18);
        DUE.is("page(0, 0)", x.page(0, 0), 23);
        DUE.is("page(0, 1)", x.page(0, 1), 26);
    }
}
