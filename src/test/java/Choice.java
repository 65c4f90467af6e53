/** Numbers that look chosen at random, but are the same for the same seed in every run. */
final class Choice {
    private long seed;

    Choice(long seed) {
        this.seed = seed;
    }

    /** From 0 to bound - 1. */
    int below(int bound) {
        seed = seed * 6364136223846793005L + 1442695040888963407L;
        return (int) Math.floorMod(seed >> 33, (long) bound);
    }

    int between(int least, int greatest) {
        return least + below(greatest - least + 1);
    }

    boolean oneIn(int bound) {
        return below(bound) == 0;
    }

    int oneOf(int... numbers) {
        return numbers[below(numbers.length)];
    }
}
