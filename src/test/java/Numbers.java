/** Numbers for made-up cases, the same in each run. */
final class Numbers {
    private long state;

    Numbers(long seed) {
        state = seed;
    }

    /** From low to high. */
    int next(int low, int high) {
        state = state * 6364136223846793005L + 1442695040888963407L;
        return low + (int) Math.floorMod(state >>> 33, (long) high - low + 1);
    }

    /** Mostly a number from low to high, at times one beside or far off. */
    int wild(int low, int high) {
        switch (next(0, 11)) {
            case 0: return low - 1;
            case 1: return high + 1;
            case 2: return next(0, 1) == 0 ? Integer.MIN_VALUE : Integer.MAX_VALUE;
            default: return next(low, high);
        }
    }
}
