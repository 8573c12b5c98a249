/** Mills with many cuttings that are equally good in feet or in coils: cutting, from and cut as NaiveMill has them. */
public final class NaiveCuttingsTest {
    private final Checks checks = new Checks();
    private WireMill mill;
    private NaiveMill naive;
    private Luck luck;
    private int filled;

    public static void main(String[] args) {
        NaiveCuttingsTest test = new NaiveCuttingsTest();
        for (int run = 0; run < 500 && test.checks.wrong() < 20; run++) test.run(run);
        for (int run = 0; run < 1500 && test.checks.wrong() < 20; run++) test.choose(run);
        test.checks.holds("orders filled: " + test.filled, test.filled > 1500);
        test.checks.end();
    }

    private void run(int run) {
        mill = new WireMill();
        naive = new NaiveMill();
        luck = new Luck(run);
        int most = luck.any(3, 14);
        for (int round = 0; round < 4; round++) {
            int coils = luck.any(1, 5);
            for (int i = 0; i < coils; i++) rod(most);
            int orders = luck.any(1, 4);
            for (int i = 0; i < orders; i++) want(most);
            int less = luck.any(1, 9);
            checks.due("set", mill.set(5, less), naive.set(5, less));
            look();
            int made = mill.cut();
            filled += made;
            checks.due("cut", made, naive.cut());
            look();
        }
    }

    /** More orders than there are feet for: many sets of orders are equally good. */
    private void choose(int run) {
        mill = new WireMill();
        naive = new NaiveMill();
        luck = new Luck(run);
        int most = luck.any(2, 7), coils = luck.any(1, 4);
        for (int i = 0; i < coils; i++) {
            int feet = luck.any(1, 2 * most);
            checks.due("coil", mill.coil(0, 300, feet, false), naive.coil(0, 300, feet, false));
        }
        for (int i = 0; i < 6; i++) {
            int feet = luck.any(1, most);
            checks.due("order", mill.order(0, 300, 300, feet), naive.order(0, 300, 300, feet));
        }
        look();
        checks.due("cut", mill.cut(), naive.cut());
        look();
    }

    private void rod(int most) {
        int metal = luck.any(0, 4) / 4, size = 300 + 10 * luck.any(0, 1), feet = luck.any(1, 2 * most);
        checks.due("coil", mill.coil(metal, size, feet, false), naive.coil(metal, size, feet, false));
    }

    private void want(int most) {
        int metal = luck.any(0, 4) / 4, low = luck.any(0, 2) == 0 ? 301 : 300, high = luck.any(0, 2) == 0 ? 309 : 310;
        int feet = luck.any(1, most);
        checks.due("order", mill.order(metal, low, high, feet), naive.order(metal, low, high, feet));
    }

    private void look() {
        checks.due("cutting", mill.cutting(), naive.cutting());
        for (int i = -1; i <= 6; i++) {
            checks.due("from " + i, mill.from(i), naive.from(i));
            checks.due("filled " + i, mill.filled(i), naive.filled(i));
        }
        for (int i = 0; i < 16; i++) checks.due("stuff " + i, mill.stuff(i), naive.stuff(i));
        for (int i = 0; i < 5; i++) checks.due("account " + i, mill.account(i), naive.account(i));
    }
}
