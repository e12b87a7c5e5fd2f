/** Stores to begin a test with. */
final class Stores {
    private Stores() {
    }

    static LogStore withTransactions(int number) {
        LogStore x = new LogStore();
        for (int t = 1; t <= number; t++) {
            x.begin();
        }
        return x;
    }

    /** Transaction 1 wrote keys 0 .. number - 1, each to the place of its number, as key + 100. */
    static LogStore withKeys(int number) {
        LogStore x = withTransactions(1);
        for (int key = 0; key < number; key++) {
            x.write(1, key, key + 100);
        }
        return x;
    }
}
