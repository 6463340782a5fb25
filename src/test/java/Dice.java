/** Numbers that look thrown, but are the same in each run. */
final class Dice {
    private long seed;

    Dice(long seed) {
        this.seed = seed * 0x9E3779B97F4A7C15L + 0x1234567L;
    }

    /** A number 0 .. below - 1. */
    int below(int below) {
        seed = seed * 6364136223846793005L + 1442695040888963407L;
        return (int) ((seed >>> 33) % below);
    }

    boolean oneIn(int many) {
        return below(many) == 0;
    }

    /** A number low .. high, now and then just outside or far off. */
    int around(int low, int high) {
        if (oneIn(40)) {
            int[] off = {low - 1, high + 1, Integer.MIN_VALUE, Integer.MAX_VALUE};
            return off[below(off.length)];
        }
        return low + below(high - low + 1);
    }
}
