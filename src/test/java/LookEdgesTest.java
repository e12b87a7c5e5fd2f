/** The boundary cases in promises 12 to 20, of the calls that look: a method for each case. */
public final class LookEdgesTest {
    private static final Due DUE = new Due("LookEdgesTest");
    private static final int MIN = Integer.MIN_VALUE;
    private static final int MAX = Integer.MAX_VALUE;
    private static final String OUTCOME = "What the latest read or write of a transaction "
        + "(refused ones do not count) answered or, if it waited and was granted since, would "
        + "have answered; it stays so when the transaction is aborted.";
    private static final String VALUE = "The value that the latest read that was done gave to a "
        + "transaction; 0 if there was none.";
    private static final String STORED = "The value in the least place that holds the key (any "
        + "int; 0 for one that is no key), whoever wrote it, seen in the pool if the page is "
        + "there, else on the disk; 0 if there is none.";
    private static final String PLACE =
        "The least place that holds a key, seen likewise; -1 if there is none.";
    private static final String AFTER = "The least key greater than the given number that has a "
        + "place; -1 if there is none, or while the store is down.";
    private static final String PAGE = "-1 if not, else 0 if it is clean, else its REC";

    public static void main(String[] args) {
        upThroughACrash();
        stateOfNoTransaction();
        outcomeOfNoRequest();
        outcomeOfRefusedRequests();
        outcomeOfAnAbortedOne();
        outcomeAfterAWait();
        valueOfNoRead();
        valueOfAReadThatWaits();
        valueIsNotChangedByAWrite();
        storedOfNoKey();
        storedInThePoolElseOnTheDisk();
        storedInTheLeastOfTwoPlaces();
        placeOfNoKey();
        afterAtTheEnds();
        afterWhileDown();
        countOfAnotherThing();
        countsGoOnOverACrash();
        pageNotInThePool();
        pageWithItsLsns();
        pageOfAnotherNumber();
        DUE.end();
    }

    private static void upThroughACrash() {
        DUE.sentence(12, "Whether the store is up.");
        LogStore x = Stores.withKeys(1);
        DUE.is("up()", x.up(), true);
        x.crash(1);
        DUE.is("up()", x.up(), false);
        x.restart(2);
        DUE.is("up()", x.up(), false);
        x.restart(1);
        DUE.is("up()", x.up(), true);
    }

    private static void stateOfNoTransaction() {
        DUE.sentence(13, "The state of a transaction; 0 if there is no such one.");
        LogStore x = Stores.withTransactions(2);
        DUE.is("state(1)", x.state(1), 1);
        DUE.is("state(2)", x.state(2), 1);
        for (int t : new int[] {0, -1, 3, 60, 61, MIN, MAX}) {
            DUE.is("state(" + t + ")", x.state(t), 0);
        }
        x.crash(0);
        DUE.is("state(2) while down", x.state(2), 6);
        DUE.is("state(3) while down", x.state(3), 0);
    }

    private static void outcomeOfNoRequest() {
        DUE.sentence(14, "-1 if there was none.");
        LogStore x = Stores.withTransactions(2);
        x.read(1, 1);
        DUE.is("outcome(2)", x.outcome(2), -1);
        x.commit(2);
        DUE.is("outcome(2)", x.outcome(2), -1);
        for (int t : new int[] {0, -1, 3, 60, 61, MIN, MAX}) {
            DUE.is("outcome(" + t + ")", x.outcome(t), -1);
        }
    }

    private static void outcomeOfRefusedRequests() {
        DUE.sentence(14, OUTCOME);
        LogStore x = Stores.withKeys(24);
        x.begin();
        DUE.is("read(2, 100)", x.read(2, 100), -1);
        DUE.is("outcome(2)", x.outcome(2), -1);
        DUE.is("write(2, 50, 1)", x.write(2, 50, 1), 3);
        DUE.is("write(2, -1, 1)", x.write(2, -1, 1), -1);
        DUE.is("outcome(2)", x.outcome(2), 3);
        DUE.is("read(2, 50)", x.read(2, 50), 0);
        DUE.is("outcome(2)", x.outcome(2), 0);
        DUE.is("read(2, 0)", x.read(2, 0), 1);
        DUE.is("read(2, 50), it waits", x.read(2, 50), -1);
        DUE.is("outcome(2)", x.outcome(2), 1);
    }

    private static void outcomeOfAnAbortedOne() {
        DUE.sentence(14, OUTCOME);
        LogStore x = Stores.withTransactions(4);
        x.write(1, 1, 1);
        x.write(2, 2, 2);
        x.read(3, 1);
        x.abort(3);
        DUE.is("outcome(3), it waited", x.outcome(3), 1);
        x.read(1, 2);
        x.read(2, 1);
        DUE.is("outcome(2), a victim", x.outcome(2), 2);
        DUE.is("outcome(1), granted by that", x.outcome(1), 0);
        x.abort(1);
        DUE.is("outcome(1)", x.outcome(1), 0);
        x.write(4, 3, 3);
        x.crash(0);
        DUE.is("outcome(4) while down", x.outcome(4), 0);
        x.restart(9);
        DUE.is("outcome(4) up again", x.outcome(4), 0);
        DUE.is("outcome(3)", x.outcome(3), 1);
    }

    private static void outcomeAfterAWait() {
        DUE.sentence(14, OUTCOME);
        LogStore x = Stores.withKeys(24);
        x.begin();
        x.begin();
        x.begin();
        x.read(2, 50);
        DUE.is("write(3, 50, 3)", x.write(3, 50, 3), 1);
        DUE.is("read(4, 0)", x.read(4, 0), 1);
        DUE.is("outcome(3)", x.outcome(3), 1);
        x.commit(1);
        x.force();
        DUE.is("outcome(4), granted", x.outcome(4), 0);
        DUE.is("outcome(3)", x.outcome(3), 1);
        x.abort(2);
        DUE.is("outcome(3), granted without room", x.outcome(3), 3);
        x.abort(3);
        DUE.is("outcome(3)", x.outcome(3), 3);
    }

    private static void valueOfNoRead() {
        DUE.sentence(15, VALUE);
        LogStore x = Stores.withKeys(1);
        DUE.is("value(1), it only wrote", x.value(1), 0);
        for (int t : new int[] {0, -1, 2, 60, 61, MIN, MAX}) {
            DUE.is("value(" + t + ")", x.value(t), 0);
        }
    }

    private static void valueOfAReadThatWaits() {
        DUE.sentence(15, VALUE);
        LogStore x = Stores.withTransactions(2);
        x.write(2, 2, 22);
        x.read(2, 2);
        DUE.is("value(2)", x.value(2), 22);
        x.write(1, 1, 11);
        x.read(2, 1);
        DUE.is("value(2), the latest that was done", x.value(2), 22);
        x.write(1, 1, 12);
        x.commit(1);
        x.force();
        DUE.is("value(2), as it is when it is done", x.value(2), 12);
        x.write(2, 2, 23);
        x.abort(2);
        DUE.is("value(2)", x.value(2), 12);
        x.crash(0);
        DUE.is("value(2) while down", x.value(2), 12);
    }

    private static void valueIsNotChangedByAWrite() {
        DUE.sentence(15, VALUE);
        LogStore x = Stores.withKeys(1);
        x.read(1, 0);
        x.write(1, 0, 5);
        DUE.is("value(1)", x.value(1), 100);
        DUE.is("read(1, 100), refused", x.read(1, 100), -1);
        DUE.is("value(1)", x.value(1), 100);
        x.read(1, 0);
        DUE.is("value(1)", x.value(1), 5);
    }

    private static void storedOfNoKey() {
        DUE.sentence(16, STORED);
        LogStore x = Stores.withTransactions(1);
        x.write(1, 0, 7);
        x.write(1, 99, 8);
        DUE.is("stored(0)", x.stored(0), 7);
        DUE.is("stored(99)", x.stored(99), 8);
        DUE.is("stored(1), without a place", x.stored(1), 0);
        for (int key : new int[] {-1, 100, MIN, MAX}) {
            DUE.is("stored(" + key + ")", x.stored(key), 0);
        }
    }

    private static void storedInThePoolElseOnTheDisk() {
        DUE.sentence(16, "(Nothing is fetched. While the store is down, too.)");
        LogStore x = Stores.withKeys(1);
        x.flush(0);
        x.write(1, 0, 7);
        DUE.is("stored(0), in the pool", x.stored(0), 7);
        x.crash(1);
        DUE.is("stored(0), on the disk", x.stored(0), 100);
        DUE.is("page(0, 0)", x.page(0, 0), -1);
        x.restart(3);
        DUE.is("stored(0), in the pool of the restart", x.stored(0), 7);
        x = Stores.withKeys(13);
        DUE.is("stored(0)", x.stored(0), 100);
        DUE.is("place(0)", x.place(0), 0);
        DUE.is("page(0, 0)", x.page(0, 0), -1);
        DUE.is("count(2)", x.count(2), 4);
    }

    /** Key 9 is on the disk in place 4, from 2, and in place 0, from 3; the abort of 2 is not. */
    private static void storedInTheLeastOfTwoPlaces() {
        LogStore x = Stores.withKeys(4);
        x.begin();
        x.write(2, 9, 2);
        x.flush(1);
        x.abort(2);
        x.abort(1);
        x.begin();
        x.write(3, 9, 3);
        x.flush(0);
        DUE.sentence(17, PLACE);
        DUE.is("place(9)", x.place(9), 0);
        x.crash(0);
        DUE.is("page(0, 2)", x.page(0, 2), 11);
        DUE.is("page(1, 2)", x.page(1, 2), 5);
        DUE.is("place(9), of two", x.place(9), 0);
        DUE.sentence(16, STORED);
        DUE.is("stored(9), of two", x.stored(9), 3);
    }

    private static void placeOfNoKey() {
        DUE.sentence(17, PLACE);
        LogStore x = Stores.withKeys(24);
        DUE.is("place(0)", x.place(0), 0);
        DUE.is("place(23)", x.place(23), 23);
        for (int key : new int[] {-1, 24, 99, 100, MIN, MAX}) {
            DUE.is("place(" + key + ")", x.place(key), -1);
        }
        x.abort(1);
        DUE.is("place(-1), all are free", x.place(-1), -1);
        DUE.is("place(0)", x.place(0), -1);
    }

    private static void afterAtTheEnds() {
        DUE.sentence(18, AFTER);
        LogStore x = Stores.withTransactions(1);
        DUE.is("after(MIN), no key has a place", x.after(MIN), -1);
        x.write(1, 99, 1);
        x.write(1, 0, 1);
        DUE.is("after(MIN)", x.after(MIN), 0);
        DUE.is("after(-2)", x.after(-2), 0);
        DUE.is("after(-1)", x.after(-1), 0);
        DUE.is("after(0)", x.after(0), 99);
        DUE.is("after(98)", x.after(98), 99);
        DUE.is("after(99)", x.after(99), -1);
        DUE.is("after(100)", x.after(100), -1);
        DUE.is("after(MAX)", x.after(MAX), -1);
    }

    private static void afterWhileDown() {
        DUE.sentence(18, AFTER);
        LogStore x = Stores.withKeys(1);
        x.commit(1);
        x.force();
        x.flush(0);
        x.crash(0);
        DUE.is("place(0)", x.place(0), 0);
        DUE.is("after(-1)", x.after(-1), -1);
        x.restart(2);
        DUE.is("after(-1) in the restart", x.after(-1), -1);
        x.restart(1);
        DUE.is("after(-1) up again", x.after(-1), 0);
    }

    private static void countOfAnotherThing() {
        DUE.sentence(19, "-1 for another what.");
        LogStore x = Stores.withKeys(13);
        int[] counts = {13, 4, 4, 1};
        for (int what = 0; what < 4; what++) {
            DUE.is("count(" + what + ")", x.count(what), counts[what]);
        }
        for (int what : new int[] {-1, 4, MIN, MAX}) {
            DUE.is("count(" + what + ")", x.count(what), -1);
        }
    }

    private static void countsGoOnOverACrash() {
        DUE.sentence(19, "of pages that came into the pool (2), or were written (3), since the "
            + "beginning (by the restart, too)");
        LogStore x = Stores.withKeys(13);
        x.crash(9);
        DUE.is("count(2)", x.count(2), 4);
        DUE.is("count(3)", x.count(3), 1);
        DUE.is("restart(100)", x.restart(100), 27);
        DUE.is("count(2), 0 to 3 and 0 again", x.count(2), 9);
        DUE.is("count(3), 3 left in the undo", x.count(3), 2);
        DUE.is("count(0)", x.count(0), 26);
        DUE.is("count(1), by the CLR of page 3", x.count(1), 14);
    }

    private static void pageNotInThePool() {
        DUE.sentence(20, PAGE);
        LogStore x = Stores.withKeys(5);
        DUE.is("page(2, 0)", x.page(2, 0), -1);
        DUE.is("page(1, 0)", x.page(1, 0), 5);
        x.flush(1);
        DUE.is("page(1, 0)", x.page(1, 0), 0);
        DUE.is("page(0, 0)", x.page(0, 0), 1);
        x.crash(0);
        DUE.is("page(0, 0)", x.page(0, 0), -1);
        x.restart(2);
        DUE.is("page(0, 0) in the restart", x.page(0, 0), 1);
    }

    private static void pageWithItsLsns() {
        DUE.sentence(20, "the LSN that it has in the pool, -1 if it is not there (1); the LSN of "
            + "its version (2).");
        LogStore x = Stores.withKeys(13);
        DUE.is("page(0, 1), it left", x.page(0, 1), -1);
        DUE.is("page(0, 2)", x.page(0, 2), 4);
        DUE.is("page(3, 1)", x.page(3, 1), 13);
        DUE.is("page(3, 2)", x.page(3, 2), 0);
        DUE.is("page(5, 1)", x.page(5, 1), -1);
        DUE.is("page(5, 2)", x.page(5, 2), 0);
        x.crash(0);
        DUE.is("page(3, 1)", x.page(3, 1), -1);
        DUE.is("page(0, 2) while down", x.page(0, 2), 4);
    }

    private static void pageOfAnotherNumber() {
        DUE.sentence(20, "-1 for another page or what.");
        LogStore x = Stores.withKeys(24);
        x.flush(5);
        DUE.is("page(5, 2)", x.page(5, 2), 24);
        for (int page : new int[] {-1, 6, MIN, MAX}) {
            for (int what = 0; what < 3; what++) {
                DUE.is("page(" + page + ", " + what + ")", x.page(page, what), -1);
            }
        }
        for (int what : new int[] {-1, 3, MIN, MAX}) {
            DUE.is("page(5, " + what + ")", x.page(5, what), -1);
        }
    }
}
