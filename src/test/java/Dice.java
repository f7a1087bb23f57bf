/** Numbers that look like chance and are the same in every run. */
final class Dice {
    private long state;

    Dice(long seed) {
        state = seed * 0x9E3779B97F4A7C15L + 1;
    }

    long next() {
        state ^= state << 13;
        state ^= state >>> 7;
        state ^= state << 17;
        return state * 0x2545F4914F6CDD1DL;
    }

    /** From least to most, both with it. */
    int from(int least, int most) {
        return least + (int) Math.floorMod(next() >>> 3, (long) most - least + 1);
    }

    boolean oneIn(int n) {
        return from(1, n) == 1;
    }
}
