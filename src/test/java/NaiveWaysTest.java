/** Mills with many ways, some with fires, some that can't be gone to their end: way, step and go as NaiveMill has them. */
public final class NaiveWaysTest {
    private final Checks checks = new Checks();
    private WireMill mill;
    private NaiveMill naive;
    private Luck luck;
    private int withFires;
    private int withMany;
    private int cutShort;

    public static void main(String[] args) {
        NaiveWaysTest test = new NaiveWaysTest();
        for (int run = 0; run < 4000 && test.checks.wrong() < 20; run++) test.run(run);
        test.checks.holds("ways with fires: " + test.withFires, test.withFires > 300);
        test.checks.holds("ways with three draws and more: " + test.withMany, test.withMany > 300);
        test.checks.holds("ways not gone to the end: " + test.cutShort, test.cutShort > 10);
        test.checks.end();
    }

    private void run(int run) {
        mill = new WireMill();
        naive = new NaiveMill();
        luck = new Luck(run);
        equip();
        // three rods make 501 calls at most, and an object has 512
        for (int i = 0; i < 3; i++) {
            int rod = rod();
            for (int k = 0; k < 4; k++) look(rod, luck.any(90, 230));
            if (luck.any(0, 1) == 0) change();
            walk(rod, luck.any(90, 200));
            look(rod, luck.any(90, 150));
            // just one foot, so that a fire leaves less
            if (luck.any(0, 1) == 0) checks.due("part", mill.part(rod, 1), naive.part(rod, 1));
            walk(rod, luck.any(90, 150));
        }
    }

    private void equip() {
        int base = luck.any(1, 200), gain = luck.any(50, 300), limit = luck.any(20, 100);
        int abrade = luck.any(0, 50), scale = luck.any(0, 50);
        checks.due("metal", mill.metal(0, base, gain, limit, abrade, scale), naive.metal(0, base, gain, limit, abrade, scale));
        set(0, luck.any(0, 25));
        set(1, luck.any(70, 100));
        int strong = luck.any(0, 3) == 0 ? luck.any(0, 9000000) : 100000000, water = luck.any(5, 10);
        for (int i = 0; i < 3; i++) checks.due("puller", mill.puller(i, strong, 10 + i), naive.puller(i, strong, 10 + i));
        set(2, water);
        int holes = luck.any(3, 8);
        for (int i = 0; i < holes; i++) {
            int nominal = luck.any(0, 3) == 0 ? 10 * luck.any(9, 22) : luck.any(90, 220);
            checks.due("hole", mill.hole(0, nominal), naive.hole(0, nominal));
        }
    }

    private void set(int what, int v) {
        checks.due("set", mill.set(what, v), naive.set(what, v));
    }

    private int rod() {
        int size = luck.any(120, 250), feet = luck.any(0, 1) == 0 ? 1 : luck.any(1, 400);
        int rod = mill.coil(0, size, feet, false);
        checks.due("coil", rod, naive.coil(0, size, feet, false));
        if (rod < 0 || luck.any(0, 3) > 0) return rod;
        checks.due("coil", mill.coil(0, size, 9, false), naive.coil(0, size, 9, false));
        checks.due("join", mill.join(rod, rod + 1), naive.join(rod, rod + 1));
        return rod;
    }

    private void change() {
        int hole = luck.any(0, 7), by = luck.any(1, 9), limit = luck.any(10, 100);
        checks.due("ream", mill.ream(0, hole, by), naive.ream(0, hole, by));
        if (luck.any(0, 3) == 0) checks.due("metal", mill.metal(0, 100, 150, limit, 9, 50), naive.metal(0, 100, 150, limit, 9, 50));
    }

    private void look(int coil, int low) {
        int high = low + luck.any(0, 12), puller = luck.any(0, 2);
        int way = mill.way(coil, 0, puller, low, high);
        checks.due("way", way, naive.way(coil, 0, puller, low, high));
        if (way < 0) return;
        if (way >= 100) withFires++;
        if (way % 100 >= 3) withMany++;
        for (int i = 0; i <= way / 100 + way % 100; i++) {
            checks.due("step " + i, mill.step(coil, 0, puller, low, high, i), naive.step(coil, 0, puller, low, high, i));
        }
    }

    private void walk(int coil, int low) {
        int high = low + luck.any(0, 30), puller = luck.any(0, 2);
        int way = mill.way(coil, 0, puller, low, high), done = mill.go(coil, 0, puller, low, high);
        checks.due("go", done, naive.go(coil, 0, puller, low, high));
        if (way >= 0 && done < way / 100 + way % 100) cutShort++;
        for (int k = 0; k < 7; k++) checks.due("at " + k, mill.at(coil, k), naive.at(coil, k));
        for (int k = 0; k < 8; k++) checks.due("wear of " + k, mill.told(0, k, 1), naive.told(0, k, 1));
        for (int k = 0; k < 4; k++) checks.due("ready " + k, mill.ready(k), naive.ready(k));
        for (int k = 0; k < 5; k++) checks.due("account " + k, mill.account(k), naive.account(k));
        for (int k = 0; k < 7; k++) checks.due("count " + k, mill.count(k), naive.count(k));
    }
}
