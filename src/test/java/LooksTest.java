/** Promises 16, 17 and 18: stored, place, after. */
public final class LooksTest {
    private static final Due DUE = new Due("LooksTest");
    private static final int[] NO_KEYS =
        {-1, -2, 100, 101, Integer.MIN_VALUE, Integer.MAX_VALUE};

    public static void main(String[] args) {
        ordinaryLooks();
        looksAtWhatIsNoKey();
        looksWhileDown();
        twoPlacesOnTheDisk();
        DUE.end();
    }

    private static void ordinaryLooks() {
        LogStore x = new LogStore();
        x.begin();
        x.write(1, 40, -4);
        x.write(1, 0, 0);
        x.write(1, 99, Integer.MAX_VALUE);
        DUE.promise("16 stored");
        DUE.is("stored(40), not committed", x.stored(40), -4);
        DUE.is("stored(0)", x.stored(0), 0);
        DUE.is("stored(99)", x.stored(99), Integer.MAX_VALUE);
        DUE.is("stored(41)", x.stored(41), 0);
        DUE.promise("17 place");
        DUE.is("place(40)", x.place(40), 0);
        DUE.is("place(0)", x.place(0), 1);
        DUE.is("place(99)", x.place(99), 2);
        DUE.is("place(41)", x.place(41), -1);
        DUE.promise("18 after");
        DUE.is("after(-1)", x.after(-1), 0);
        DUE.is("after(MIN)", x.after(Integer.MIN_VALUE), 0);
        DUE.is("after(0)", x.after(0), 40);
        DUE.is("after(39)", x.after(39), 40);
        DUE.is("after(40)", x.after(40), 99);
        DUE.is("after(98)", x.after(98), 99);
        DUE.is("after(99)", x.after(99), -1);
        DUE.is("after(MAX)", x.after(Integer.MAX_VALUE), -1);
        x.begin();
        x.read(2, 99);
        x.abort(1);
        DUE.is("after(-1), all places are free again", x.after(-1), -1);
        DUE.is("value(2)", x.value(2), 0);
    }

    private static void looksAtWhatIsNoKey() {
        LogStore x = new LogStore();
        x.begin();
        x.write(1, 5, 50);
        for (int key : NO_KEYS) {
            DUE.promise("16 stored of no key");
            DUE.is("stored(" + key + ")", x.stored(key), 0);
            DUE.promise("17 place of no key");
            DUE.is("place(" + key + ")", x.place(key), -1);
        }
    }

    private static void looksWhileDown() {
        LogStore x = new LogStore();
        x.begin();
        x.write(1, 5, 50);
        x.write(1, 6, 60);
        x.flush(0);
        x.write(1, 5, 51);
        x.commit(1);
        x.crash(2);
        DUE.promise("16 stored while down");
        DUE.is("stored(5), as the disk has it", x.stored(5), 50);
        DUE.promise("17 place while down");
        DUE.is("place(6)", x.place(6), 1);
        DUE.promise("18 after while down");
        DUE.is("after(-1)", x.after(-1), -1);
        x.restart(4);
        DUE.is("after(-1) in the restart", x.after(-1), -1);
        DUE.promise("16 stored in the restart");
        DUE.is("stored(5), as the pool has it", x.stored(5), 51);
        DUE.is("count(2)", x.count(2), 2);
        x.restart(1);
        DUE.promise("18 after, up again");
        DUE.is("after(-1)", x.after(-1), 5);
        DUE.is("after(5)", x.after(5), 6);
    }

    /**
     * Key 1 is in place 12 on the disk; its abort is not written; then it gets place 4, which is
     * written. After the crash the disk has it twice, till the redo frees place 12.
     */
    private static void twoPlacesOnTheDisk() {
        LogStore x = new LogStore();
        for (int t = 1; t <= 3; t++) {
            x.begin();
        }
        for (int key = 50; key < 54; key++) {
            x.write(1, key, 1);
        }
        for (int key = 60; key < 68; key++) {
            x.write(2, key, 2);
        }
        x.write(3, 1, 3);
        DUE.promise("17 place, the least of two");
        DUE.is("place(1)", x.place(1), 12);
        DUE.is("flush(3)", x.flush(3), true);
        x.abort(3);
        DUE.is("place(1)", x.place(1), -1);
        x.abort(2);
        x.begin();
        DUE.is("write(4, 1, 4)", x.write(4, 1, 4), 0);
        DUE.is("place(1)", x.place(1), 4);
        x.force();
        DUE.is("flush(1)", x.flush(1), true);
        DUE.is("page(3, 2), the abort is not on the disk", x.page(3, 2), 13);
        x.crash(0);
        DUE.is("place(1)", x.place(1), 4);
        DUE.promise("16 stored, in the least place of two");
        DUE.is("stored(1)", x.stored(1), 4);
        x.restart(100);
        DUE.is("up()", x.up(), true);
        DUE.is("place(1), 4 was not committed", x.place(1), -1);
    }
}
