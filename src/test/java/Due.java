/** Compares answers with those that are due, and ends a test with exit code 1 if one was wrong. */
final class Due {
    private final String test;
    private String promise = "";
    private int compared;
    private int wrong;

    Due(String test) {
        this.test = test;
    }

    /** Names what the comparisons that follow are about. */
    void promise(String name) {
        promise = name;
    }

    /** Likewise, by the document's words in "Terms" that they hold the program to. */
    void sentence(String words) {
        promise = "\"" + words + "\"";
    }

    /** Likewise, by the words of a promise. */
    void sentence(int number, String words) {
        promise = "promise " + number + " \"" + words + "\"";
    }

    void is(String call, int got, int want) {
        compared++;
        if (got != want) {
            wrong++;
            System.out.println(promise + ": " + call + " answered " + got + ", due is " + want);
        }
    }

    void is(String call, boolean got, boolean want) {
        is(call, got ? 1 : 0, want ? 1 : 0);
    }

    void end() {
        System.out.println(test + ": " + compared + " answers, " + wrong + " wrong");
        if (wrong != 0) {
            System.exit(1);
        }
    }
}
