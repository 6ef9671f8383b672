/** Numbers that look thrown, but are the same in every run. */
final class Dice {
    private long state;

    Dice(long seed) {
        state = seed * 0x9E3779B97F4A7C15L + 1;
    }

    long next() {
        state = state * 6364136223846793005L + 1442695040888963407L;
        long mixed = (state ^ state >>> 29) * 0xBF58476D1CE4E5B9L;
        return mixed ^ mixed >>> 32;
    }

    /** A number from 0 to below. */
    int below(int below) {
        return (int) Math.floorMod(next(), (long) below);
    }

    boolean isOneOf(int times) {
        return below(times) == 0;
    }
}
