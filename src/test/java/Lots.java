/** A row of numbers that looks drawn by lot, always the same for one seed. */
final class Lots {
    private long state;

    Lots(long seed) {
        state = seed * 2862933555777941757L + 3037000493L;
    }

    int any() {
        state = state * 6364136223846793005L + 1442695040888963407L;
        return (int) (state >>> 32);
    }

    int below(int bound) {
        return Math.floorMod(any() >> 3, bound);
    }
}
