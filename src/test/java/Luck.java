/** Numbers that look picked at random and are the same in each run. */
final class Luck {
    private long seed;

    Luck(long seed) {
        this.seed = seed;
        any(0, 1);
    }

    int any(int low, int high) {
        seed = seed * 6364136223846793005L + 1442695040888963407L;
        return low + (int) Math.floorMod(seed >>> 33, (long) high - low + 1);
    }
}
