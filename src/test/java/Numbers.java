/** A mixed but fixed row of numbers: a test that draws from it is the same each time. */
final class Numbers {
    private long seed;

    Numbers(long seed) {
        this.seed = seed;
        pick(2);
    }

    int pick(int bound) {
        seed = seed * 6364136223846793005L + 1442695040888963407L;
        return (int) ((seed >>> 33) % bound);
    }

    int pickOf(int... choices) {
        return choices[pick(choices.length)];
    }
}
