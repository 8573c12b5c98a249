/** Promises 22 to 26 and the terms behind them: the edges of orders and cuttings. */
public final class EdgesOfOrdersTest {
    private static final int NONE = -1, UNKNOWN = -2, OUTSIDE = -3, FULL = -8;

    private static final Checks CHECKS = new Checks();

    public static void main(String[] args) {
        sizes(); feetOfAnOrder(); sixOrders(); sixThoughFilled(); ordersThatAreNot();
        nothingToCut(); suchSize(); suchMetal(); soManyFeet(); noWholeFoot(); togetherNoMore(); tenThousandFeet();
        goneCoilsAreNotCut(); filledOrdersAreNotCut();
        mostFeet(); fewestCoils(); leastCoilOfOrder0(); noneBehindAll(); thenTheNextOrder(); theLastCoil(); allCoilsAlike();
        nothingIsCutByLooking(); cutNothing(); made(); cutToTheLastFoot();
        trim(); trimOnlyTheUsed(); trimByAllThatIsLeft(); filled();
        CHECKS.end();
    }

    private static void says(String sentence) {
        CHECKS.says(sentence);
    }

    private static void due(String call, long got, long want) {
        CHECKS.due(call, got, want);
    }

    /** Coils of metal 0, 300 thick, with so many feet. */
    private static WireMill coils(int... feet) {
        WireMill x = new WireMill();
        for (int f : feet) x.coil(0, 300, f, false);
        return x;
    }

    /** Orders of metal 0, 300 thick, for so many feet. */
    private static void orders(WireMill x, int... feet) {
        for (int f : feet) x.order(0, 300, 300, f);
    }

    private static void dueCutting(WireMill x, int feet, int... from) {
        due("cutting", x.cutting(), feet);
        for (int i = 0; i < from.length; i++) due("from " + i, x.from(i), from[i]);
    }

    // ---- promise 22

    private static void sizes() {
        says("OUTSIDE: size from low to high (20 .. 1000)");
        WireMill x = new WireMill();
        for (int v : Mills.outside(20, 1000)) {
            due("low " + v, x.order(0, v, 1000, 1), OUTSIDE);
            due("high " + v, x.order(0, 20, v, 1), OUTSIDE);
            due("both " + v, x.order(0, v, v, 1), OUTSIDE);
        }
        due("high below low", x.order(0, 500, 499, 1), OUTSIDE);
        due("high below low", x.order(0, 1000, 20, 1), OUTSIDE);
        due("none came by that", x.count(2), 0);
        due("20 to 1000", x.order(0, 20, 1000, 1), 0);
        due("20 to 20", x.order(0, 20, 20, 1), 1);
        due("1000 to 1000", x.order(0, 1000, 1000, 1), 2);
        due("just one size", x.order(0, 500, 500, 1), 3);
    }

    private static void feetOfAnOrder() {
        says("feet 1 .. 10000");
        WireMill x = new WireMill();
        for (int v : Mills.outside(1, 10000)) due("feet " + v, x.order(0, 20, 20, v), OUTSIDE);
        due("none came by that", x.count(2), 0);
        due("1", x.order(0, 20, 20, 1), 0);
        due("10000", x.order(0, 20, 20, 10000), 1);
    }

    private static void sixOrders() {
        says("ORDERS are numbered from 0, 6 at most");
        WireMill x = new WireMill();
        for (int i = 0; i < 6; i++) {
            due("there is no " + i + " yet", x.filled(i), UNKNOWN);
            due("number " + i, x.order(i % 4, 20, 20, 1), i);
            due("not filled", x.filled(i), 0);
        }
        due("a seventh", x.order(0, 20, 20, 1), FULL);
        due("no number 6", x.filled(6), UNKNOWN);
        due("how many", x.count(2), 6);
    }

    private static void sixThoughFilled() {
        says("ORDERS are numbered from 0, 6 at most; 2 ORDERS, 3 filled ones");
        WireMill x = coils(100);
        orders(x, 1, 1, 1, 1, 1);
        due("cut", x.cut(), 5);
        due("the number behind those that are filled", x.order(0, 300, 300, 1), 5);
        due("cut", x.cut(), 1);
        due("no number is given again", x.order(0, 300, 300, 1), FULL);
        due("orders", x.count(2), 6);
        due("filled", x.count(3), 6);
    }

    private static void ordersThatAreNot() {
        says("UNKNOWN (no such .. ORDER");
        WireMill x = coils(10);
        due("no order at all", x.from(0), UNKNOWN);
        due("no order at all", x.filled(0), UNKNOWN);
        orders(x, 5, 5, 5);
        for (int order : new int[] {3, 5, 6, -1, Mills.LEAST, Mills.MOST}) {
            due("from " + order, x.from(order), UNKNOWN);
            due("filled " + order, x.filled(order), UNKNOWN);
        }
        due("the last that is", x.from(2), NONE);
        due("the last that is", x.filled(2), 0);
    }

    // ---- promises 23 and 24

    private static void nothingToCut() {
        says("Feet of all ORDERS in BEST CUTTING: none");
        WireMill x = new WireMill();
        due("no coils, no orders", x.cutting(), 0);
        orders(x, 1);
        dueCutting(x, 0, NONE);
        due("coils, no orders", coils(10).cutting(), 0);
    }

    private static void suchSize() {
        says("a COIL of such METAL and SIZE: a SIZE from low to high");
        int[] sizes = {299, 300, 310, 311};
        for (int size : sizes) {
            WireMill x = new WireMill();
            x.coil(0, size, 10, false);
            x.order(0, 300, 310, 10);
            boolean isSuch = size == 300 || size == 310;
            due("size " + size, x.from(0), isSuch ? 0 : NONE);
            due("size " + size, x.cutting(), isSuch ? 10 : 0);
        }
        WireMill y = Mills.with(310, 10, 300);
        y.order(0, 300, 300, 10);
        due("too thick", y.from(0), NONE);
        y.draw(0, 0, 0, 1);
        due("drawn", y.from(0), 0);
    }

    private static void suchMetal() {
        says("a COIL of such METAL and SIZE");
        for (int i = 0; i < 4; i++) {
            WireMill x = new WireMill();
            for (int k = 0; k < 4; k++) x.coil(k, 300, 10, false);
            x.order(i, 300, 300, 10);
            due("metal " + i, x.from(0), i);
            x.scrap(i);
            due("no such metal " + i, x.from(0), NONE);
        }
    }

    private static void soManyFeet() {
        says("(so many FEET at least)");
        for (int feet = 9; feet < 12; feet++) {
            WireMill x = coils(feet);
            orders(x, 10);
            due("coil of " + feet, x.cutting(), feet < 10 ? 0 : 10);
            due("coil of " + feet, x.from(0), feet < 10 ? NONE : 0);
        }
    }

    /** 1600 bits are four feet of 20, 1599 are three. */
    private static void noWholeFoot() {
        says("(so many FEET at least): FEET are cut");
        WireMill x = Mills.plain(40, 1, 32, 25, 20);
        for (int i = 0; i < 2; i++) x.draw(0, 0, i, 1);
        x.metal(0, 1, 100, 100, 0, 1);
        x.draw(0, 0, 2, 1);
        x.order(0, 20, 20, 4);
        due("four feet", x.cutting(), 4);
        x.fire(0);
        due("one bit less", x.cutting(), 0);
        x.order(0, 20, 20, 3);
        due("three feet", x.from(1), 0);
        due("cut", x.cut(), 1);
        due("delivered", x.account(2), 1200);
        due("what is left is less than a foot", x.account(3), 399);
    }

    private static void togetherNoMore() {
        says("all that are CUT from one have no more feet together than it has FEET");
        WireMill x = coils(10);
        orders(x, 4, 6);
        dueCutting(x, 10, 0, 0);
        WireMill y = coils(10);
        orders(y, 4, 7);
        dueCutting(y, 7, NONE, 0);
        WireMill z = coils(6);
        orders(z, 1, 1, 1, 1, 1, 1);
        dueCutting(z, 6, 0, 0, 0, 0, 0, 0);
        WireMill u = coils(5);
        orders(u, 1, 1, 1, 1, 1, 1);
        dueCutting(u, 5, 0, 0, 0, 0, 0, NONE);
    }

    private static void tenThousandFeet() {
        says("feet 1 .. 10000");
        WireMill x = Mills.longWire();
        for (int i = 0; i < 6; i++) x.order(0, 127, 127, 10000);
        dueCutting(x, 60000, 0, 0, 0, 0, 0, 0);
        x.part(0, 9999);
        due("9999 feet are too few, 52001 enough for five", x.cutting(), 50000);
        int[] want = {1, 1, 1, 1, 1, NONE};
        dueCutting(x, 50000, want);
        due("cut", x.cut(), 5);
        due("delivered", x.account(2), 50000L * 16129);
        due("left", x.at(1, 3), 2001);
    }

    private static void goneCoilsAreNotCut() {
        says("a COIL without FEET is GONE");
        WireMill x = coils(10, 10, 10);
        orders(x, 10);
        x.scrap(0);
        dueCutting(x, 10, 1);
        x.join(2, 1);
        dueCutting(x, 10, 2);
        x.scrap(2);
        dueCutting(x, 0, NONE);
    }

    private static void filledOrdersAreNotCut() {
        says("some of the ORDERS not filled yet");
        WireMill x = coils(10, 10);
        orders(x, 10);
        due("cut", x.cut(), 1);
        dueCutting(x, 0, NONE);
        due("not again", x.cut(), 0);
        orders(x, 10);
        dueCutting(x, 10, NONE, 1);
        due("delivered once", x.account(2), 900000);
    }

    private static void mostFeet() {
        says("BEST CUTTING: that with the most feet in all");
        WireMill x = coils(10);
        orders(x, 3, 3, 3, 10);
        dueCutting(x, 10, NONE, NONE, NONE, 0);
        WireMill y = coils(10);
        orders(y, 3, 3, 3, 9);
        dueCutting(y, 9, 0, 0, 0, NONE);
        WireMill z = coils(5, 2);
        orders(z, 3, 4, 1, 6, 2);
        dueCutting(z, 7, NONE, 0, 0, NONE, 1);
    }

    private static void fewestCoils() {
        says("of several that with the fewest COILS used");
        WireMill x = coils(4, 6, 10);
        orders(x, 4, 6);
        dueCutting(x, 10, 2, 2);
        x.part(2, 9);
        dueCutting(x, 10, 0, 1);
        // never at the price of a foot
        WireMill y = coils(6, 6, 12);
        orders(y, 6, 6, 12);
        dueCutting(y, 24, 0, 1, 2);
        y.scrap(0);
        dueCutting(y, 18, 1, NONE, 2);
        y.scrap(1);
        dueCutting(y, 12, 2, 2, NONE);
    }

    private static void leastCoilOfOrder0() {
        says("of several that by which ORDER 0 has the least COIL");
        WireMill x = coils(9, 10, 11, 10);
        orders(x, 10);
        dueCutting(x, 10, 1);
        WireMill y = coils(5, 20, 15, 20);
        orders(y, 5, 15);
        dueCutting(y, 20, 1, 1);
        y.order(0, 300, 300, 20);
        // two coils: 5 and 15 from coil 1, 20 from coil 3; or the other way round
        dueCutting(y, 40, 1, 1, 3);
    }

    private static void noneBehindAll() {
        says("(none behind all)");
        WireMill x = coils(10);
        orders(x, 10, 10);
        dueCutting(x, 10, 0, NONE);
        WireMill y = coils(8);
        orders(y, 5, 4, 4, 3);
        dueCutting(y, 8, 0, NONE, NONE, 0);
        // the last coil of all is still ahead of none
        WireMill z = new WireMill();
        for (int i = 0; i < 15; i++) z.coil(0, 400, 1, false);
        z.coil(0, 300, 10, false);
        orders(z, 10, 10);
        dueCutting(z, 10, 15, NONE);
    }

    private static void thenTheNextOrder() {
        says("then ORDER 1, and so on");
        WireMill x = coils(10, 10, 10);
        orders(x, 10, 10, 10);
        dueCutting(x, 30, 0, 1, 2);
        // 5, 5, 4, 4 from two coils of 9: order 0 and one of the last two from the first
        WireMill y = coils(9, 9);
        orders(y, 5, 5, 4, 4);
        dueCutting(y, 18, 0, 1, 0, 1);
        WireMill z = coils(10);
        orders(z, 5, 3, 3, 2, 2);
        dueCutting(z, 10, 0, 0, NONE, 0, NONE);
        WireMill u = coils(6, 6);
        orders(u, 2, 2, 2, 2, 2, 2);
        dueCutting(u, 12, 0, 0, 0, 1, 1, 1);
        WireMill v = coils(1);
        orders(v, 1, 1, 1, 1, 1, 1);
        v.cut();
        v.coil(0, 300, 1, false);
        dueCutting(v, 1, NONE, 1, NONE, NONE, NONE, NONE);
    }

    private static void theLastCoil() {
        says("COILS are numbered from 0, 16 at most");
        WireMill x = new WireMill();
        for (int i = 0; i < 15; i++) x.coil(0, 301 + i, 10, false);
        x.coil(0, 300, 10, false);
        orders(x, 3, 7);
        dueCutting(x, 10, 15, 15);
        due("cut", x.cut(), 2);
        due("gone", x.at(15, 0), UNKNOWN);
        due("the others stay", x.count(1), 15);
    }

    private static void allCoilsAlike() {
        says("of several that by which ORDER 0 has the least COIL, then ORDER 1, and so on");
        WireMill x = new WireMill();
        for (int i = 0; i < 16; i++) x.coil(0, 300, 10, false);
        orders(x, 10, 10, 10, 10, 10, 10);
        dueCutting(x, 60, 0, 1, 2, 3, 4, 5);
        for (int i = 0; i < 10; i++) x.scrap(i);
        dueCutting(x, 60, 10, 11, 12, 13, 14, 15);
        x.scrap(12);
        dueCutting(x, 50, 10, 11, 13, 14, 15, NONE);
        due("cut", x.cut(), 5);
        due("the last order", x.filled(5), 0);
        due("no coil is left", x.count(1), 0);
    }

    // ---- promises 25 and 26

    private static void nothingIsCutByLooking() {
        says("Feet of all ORDERS in BEST CUTTING");
        WireMill x = coils(10);
        orders(x, 4);
        for (int i = 0; i < 2; i++) dueCutting(x, 4, 0);
        due("stuff", x.stuff(0), 900000);
        due("not filled", x.filled(0), 0);
        due("not delivered", x.account(2), 0);
    }

    private static void cutNothing() {
        says("BEST CUTTING is MADE: how many ORDERS are filled by that: none");
        due("no coils, no orders", new WireMill().cut(), 0);
        WireMill x = coils(3);
        due("no orders", x.cut(), 0);
        orders(x, 4);
        due("no coil long enough", x.cut(), 0);
        due("a short coil that is not used stays", x.at(0, 3), 3);
        due("not filled", x.filled(0), 0);
    }

    private static void made() {
        says("MADE, all ORDERS in it are filled: their feet of STUFF are DELIVERED");
        WireMill x = coils(20, 9);
        x.order(0, 290, 310, 5);
        x.order(1, 300, 300, 5);
        x.order(0, 300, 300, 7);
        x.order(0, 300, 300, 9);
        x.order(0, 300, 300, 10);
        // all four are more than there is; of three 7, 9 and 10 are the most
        dueCutting(x, 26, NONE, NONE, 0, 1, 0);
        due("cut", x.cut(), 3);
        int[] filled = {0, 0, 1, 1, 1};
        for (int i = 0; i < 5; i++) due("filled " + i, x.filled(i), filled[i]);
        due("delivered", x.account(2), 26 * 90000);
        due("three feet left are scrap", x.account(3), 3 * 90000);
        due("in coils", x.account(1), 0);
        due("filled", x.count(3), 3);
    }

    private static void cutToTheLastFoot() {
        says("a COIL without FEET is GONE");
        WireMill x = coils(10);
        x.set(5, 1);
        orders(x, 10);
        due("cut", x.cut(), 1);
        due("gone", x.at(0, 3), UNKNOWN);
        due("no scrap", x.account(3), 0);
        due("delivered", x.account(2), 900000);
        due("not gone", x.count(1), 0);
    }

    private static void trim() {
        says("TRIM: what is left of a COIL used in a CUTTING becomes SCRAP, if it has less than SHORT FEET");
        WireMill x = coils(14);
        orders(x, 10);
        x.cut();
        due("four feet", x.at(0, 3), UNKNOWN);
        due("scrap", x.account(3), 4 * 90000);
        WireMill y = coils(15);
        orders(y, 10);
        y.cut();
        due("five feet", y.at(0, 3), 5);
        due("scrap", y.account(3), 0);
        due("cut again", y.cut(), 0);
        due("nothing was cut from it by that", y.at(0, 3), 5);
    }

    private static void trimOnlyTheUsed() {
        says("what is left of a COIL used in a CUTTING that is MADE");
        WireMill x = coils(3, 14, 4, 1);
        x.coil(1, 300, 1, false);
        orders(x, 10);
        due("cut", x.cut(), 1);
        int[] want = {3, UNKNOWN, 4, 1, 1};
        for (int i = 0; i < 5; i++) due("coil " + i, x.at(i, 3), want[i]);
    }

    private static void trimByAllThatIsLeft() {
        says("what is left of a COIL .. if it has less than SHORT FEET: behind all its ORDERS");
        WireMill x = coils(17);
        orders(x, 6, 6);
        due("cut", x.cut(), 2);
        due("five feet are left", x.at(0, 3), 5);
        WireMill y = coils(16);
        orders(y, 6, 6);
        due("cut", y.cut(), 2);
        due("four feet are scrap", y.account(3), 4 * 90000);
        due("twelve are delivered", y.account(2), 12 * 90000);
    }

    private static void filled() {
        says("Whether an ORDER is filled (1, 0)");
        WireMill x = coils(10);
        orders(x, 6, 5);
        for (int i = 0; i < 2; i++) due("not yet " + i, x.filled(i), 0);
        x.cut();
        due("filled", x.filled(0), 1);
        due("not filled", x.filled(1), 0);
        x.coil(0, 300, 5, false);
        x.cut();
        for (int i = 0; i < 2; i++) due("filled " + i, x.filled(i), 1);
    }
}
