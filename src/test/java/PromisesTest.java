/** Each promise of the document by its number: ordinary calls, the edges, and what is refused. */
public final class PromisesTest {
    private static final int NONE = -1, UNKNOWN = -2, OUTSIDE = -3, NOT = -4, BRITTLE = -5, TORN = -6, WEAK = -7, FULL = -8;
    private static final int LEAST = Integer.MIN_VALUE, MOST = Integer.MAX_VALUE, PULL = 100000000;

    private static final Checks CHECKS = new Checks();

    private static void due(String call, long got, long want) {
        CHECKS.due(call, got, want);
    }

    /** A mill with a hole of 90 through which two coils were drawn: 1234 feet each, 1234 * 50 * 100 by 10000 of wear. */
    private static WireMill worn(int... more) {
        WireMill x = mill(100, 1000, 90);
        for (int nominal : more) x.hole(0, nominal);
        x.coil(0, 100, 1000, false);
        x.metal(0, 100, 100, 60, 50, 5);
        x.draw(0, 0, 0, 1);
        x.draw(1, 0, 0, 1);
        return x;
    }

    /** A mill with a puller 1 who can all, and a coil of metal 0. */
    private static WireMill mill(int size, int feet, int... holes) {
        WireMill x = new WireMill();
        x.puller(1, PULL, 100);
        x.coil(0, size, feet, false);
        for (int nominal : holes) x.hole(0, nominal);
        return x;
    }

    public static void main(String[] args) {
        aNewObject(); metal(); set(); puller(); hole(); told(); gauge(); ream();
        coil(); at(); stuff(); asks(); draw(); drawsRefused(); spent(); fire(); part(); join(); scrap(); ready();
        way(); step(); longestWay(); go();
        order(); cutting(); from(); cut(); trim(); filled();
        note(); tally(); by(); chance(); cause(); account(); count();
        CHECKS.end();
    }

    // ---- promise 1

    private static void aNewObject() {
        WireMill x = new WireMill();
        for (int i = 0; i < 7; i++) due("1 count", x.count(i), 0);
        for (int i = 0; i < 5; i++) due("1 account", x.account(i), 0);
        for (int i = 0; i < 4; i++) due("1 ready", x.ready(i), 0);
        for (int i = 0; i < 4; i++) due("1 hole", x.told(i, 0, 0), UNKNOWN);
        due("1 coil", x.at(0, 0), UNKNOWN);
        due("1 order", x.filled(0), UNKNOWN);
        due("1 cutting", x.cutting(), 0);
        due("1 cause", x.cause(), NONE);
        WireMill y = new WireMill();
        y.coil(0, 20, 1, false);
        due("1 each object has its own", x.count(0), 0);
    }

    // ---- promise 2

    private static void metal() {
        WireMill x = mill(100, 10, 90);
        due("2 base at first", x.asks(0, 0, 0, 0), 228000);
        due("2", x.metal(0, 50, 200, 38, 0, 0), 1);
        due("2 base 50", x.asks(0, 0, 0, 0), 114000);
        due("2 gain 200", x.asks(0, 0, 0, 2), 38);
        due("2 limit 38 is enough", x.draw(0, 0, 0, 1), 12);
        due("2 abrade 0", x.told(0, 0, 1), 0);
        x.fire(0);
        due("2 scale 0", x.account(4), 0);
        due("2 another metal stays", x.coil(1, 100, 10, false), 1);
        due("2 another metal stays", x.asks(1, 0, 0, 0), 228000);
        int[][] most = {{1, 200}, {0, 300}, {1, 100}, {0, 50}, {0, 50}};
        for (int i = 0; i < 5; i++) {
            for (int k = 0; k < 4; k++) {
                int[] v = {100, 100, 60, 10, 5};
                v[i] = most[i][k / 2] + (k % 2 == 0 ? 0 : k == 1 ? -1 : 1);
                due("2 edges of " + i + ": " + v[i], x.metal(3, v[0], v[1], v[2], v[3], v[4]), k % 2 == 0 ? 1 : OUTSIDE);
            }
        }
        due("2", x.metal(-1, 0, 0, 0, 0, 0), UNKNOWN);
        due("2", x.metal(4, 100, 100, 60, 10, 5), UNKNOWN);
        due("2", x.metal(MOST, LEAST, MOST, LEAST, MOST, LEAST), UNKNOWN);
        due("2 refused", x.metal(1, 200, 300, 100, 50, 51), OUTSIDE);
        due("2 refused, nothing changes", x.asks(1, 0, 0, 0), 228000);
    }

    // ---- promise 3

    private static void set() {
        WireMill x = new WireMill();
        int[] first = {20, 80, 10, 60, 2, 5}, low = {0, 10, 0, 1, 0, 1}, high = {100, 100, 10, 500, 20, 100};
        for (int i = 0; i < 6; i++) {
            due("3 low " + i, x.set(i, low[i] - 1), OUTSIDE);
            due("3 high " + i, x.set(i, high[i] + 1), OUTSIDE);
            due("3 far " + i, x.set(i, LEAST), OUTSIDE);
            due("3 at first " + i, x.set(i, low[i]), first[i]);
            due("3 then " + i, x.set(i, high[i]), low[i]);
            due("3 then " + i, x.set(i, high[i]), high[i]);
        }
        due("3", x.set(-1, 10), OUTSIDE);
        due("3", x.set(6, 10), OUTSIDE);
        due("3", x.set(LEAST, 10), OUTSIDE);
    }

    // ---- promise 4

    private static void puller() {
        WireMill x = mill(100, 10, 90);
        due("4 speed 10, pull 0 at first", x.draw(0, 0, 0, 2), WEAK);
        due("4", x.puller(2, 228000, 10), 1);
        due("4 a pull just enough", x.draw(0, 0, 0, 2), 12);
        due("4 two minutes and one", x.ready(2), 3);
        due("4", x.puller(2, 0, 1000), 1);
        due("4 ready stays", x.ready(2), 3);
        due("4 edge", x.puller(2, PULL, 10), 1);
        due("4", x.puller(-1, 0, 10), UNKNOWN);
        due("4", x.puller(3, -1, 9), UNKNOWN);
        due("4", x.puller(2, -1, 10), OUTSIDE);
        due("4", x.puller(2, PULL + 1, 10), OUTSIDE);
        due("4", x.puller(2, 0, 9), OUTSIDE);
        due("4", x.puller(2, 0, 1001), OUTSIDE);
        WireMill y = mill(100, 10, 90);
        y.puller(0, 253334, 12);
        y.set(2, 9);
        due("4 nine tenths, cut: 228000", y.draw(0, 0, 0, 0), 12);
        due("4 twelve feet by twelve, and one", y.ready(0), 2);
        WireMill z = mill(100, 10, 90);
        z.puller(0, 253333, 11);
        z.puller(1, 228000, 11);
        z.set(2, 9);
        due("4 nine tenths, cut: 227999", z.draw(0, 0, 0, 0), WEAK);
        due("4 no water for others", z.draw(0, 0, 0, 1), 12);
        due("4 twelve feet by eleven, rounded up, and one", z.ready(1), 3);
    }

    // ---- promises 5 to 8

    private static void hole() {
        WireMill x = new WireMill();
        for (int i = 0; i < 8; i++) due("5", x.hole(3, i == 0 ? 20 : 1000), i);
        due("5 nine", x.hole(3, 20), FULL);
        due("5 outside ahead of full", x.hole(3, 19), OUTSIDE);
        due("5 another plate", x.hole(0, 20), 0);
        due("5", x.hole(0, 1001), OUTSIDE);
        due("5", x.hole(-1, 0), UNKNOWN);
        due("5", x.hole(4, 20), UNKNOWN);
        due("5 it is there", x.told(3, 7, 0), 1000);
        due("5 refused", x.told(0, 1, 0), UNKNOWN);
    }

    private static void told() {
        WireMill x = worn(90);
        for (int i = 0; i < 5; i++) due("6 new " + i, x.told(0, 1, i), new int[] {90, 0, 90, 0, 0}[i]);
        due("6 wear", x.told(0, 0, 1), 2 * 617);
        due("6 wide", x.told(0, 0, 2), 91);
        due("6 nominal", x.told(0, 0, 0), 90);
        x.ream(0, 0, 1);
        due("6 reams", x.told(0, 0, 3), 1);
        due("6", x.told(0, 0, 5), OUTSIDE);
        due("6", x.told(0, 0, -1), OUTSIDE);
        due("6", x.told(0, 2, 9), UNKNOWN);
        due("6", x.told(1, 0, 0), UNKNOWN);
        due("6", x.told(4, 0, 0), UNKNOWN);
        due("6", x.told(LEAST, MOST, 0), UNKNOWN);
    }

    private static void gauge() {
        WireMill x = worn(90);
        due("7 new", x.gauge(0, 1), 0);
        due("7 worn", x.gauge(0, 0), 1);
        due("7", x.gauge(0, 2), UNKNOWN);
        due("7", x.gauge(0, -1), UNKNOWN);
        due("7", x.gauge(-1, 0), UNKNOWN);
        due("7", x.gauge(4, 0), UNKNOWN);
    }

    private static void ream() {
        WireMill x = worn(951, 950);
        due("8 above what it is wide", x.ream(0, 0, 9), 100);
        due("8 wear", x.told(0, 0, 1), 0);
        due("8 wide", x.told(0, 0, 2), 100);
        due("8 again", x.ream(0, 0, 50), 150);
        due("8 twice", x.told(0, 0, 3), 2);
        due("8 no third", x.ream(0, 0, 1), NOT);
        due("8 outside ahead", x.ream(0, 0, 51), OUTSIDE);
        due("8", x.ream(0, 1, 0), OUTSIDE);
        due("8 above 1000", x.ream(0, 1, 50), NOT);
        due("8 refused", x.told(0, 1, 3), 0);
        due("8 just 1000", x.ream(0, 2, 50), 1000);
        due("8 above", x.ream(0, 2, 1), NOT);
        due("8", x.ream(0, 3, 99), UNKNOWN);
        due("8", x.ream(4, 0, 1), UNKNOWN);
        due("8", x.ream(0, 1, MOST), OUTSIDE);
    }

    // ---- promises 9 to 11

    private static void coil() {
        WireMill x = new WireMill();
        due("9", x.coil(3, 1000, 1000, true), 0);
        int[] want = {3, 1000, 0, 1000, 0, 0, 1};
        for (int i = 0; i < 7; i++) due("9 at " + i, x.at(0, i), want[i]);
        due("9 in", x.account(0), 1000000000L);
        due("9", x.coil(-1, 100, 1, false), UNKNOWN);
        due("9", x.coil(4, 0, 0, false), UNKNOWN);
        due("9", x.coil(0, 19, 1, false), OUTSIDE);
        due("9", x.coil(0, 1001, 1, false), OUTSIDE);
        due("9", x.coil(0, 20, 0, false), OUTSIDE);
        due("9", x.coil(0, 20, 1001, false), OUTSIDE);
        due("9", x.coil(0, MOST, MOST, false), OUTSIDE);
        due("9 refused", x.count(0), 1);
        for (int i = 1; i < 16; i++) due("9", x.coil(0, 20, 1, false), i);
        due("9 seventeen", x.coil(0, 20, 1, false), FULL);
        due("9 outside ahead of full", x.coil(0, 20, 0, false), OUTSIDE);
        x.scrap(0);
        due("9 a number is not given again", x.coil(0, 20, 1, false), FULL);
        due("9 in", x.account(0), 1000000000L + 15 * 400);
    }

    private static void at() {
        WireMill x = mill(100, 10, 90);
        x.draw(0, 0, 0, 1);
        int[] want = {0, 90, 19, 12, 0, 2, 0};
        for (int i = 0; i < 7; i++) due("10 at " + i, x.at(0, i), want[i]);
        due("10", x.at(0, 7), OUTSIDE);
        due("10", x.at(0, -1), OUTSIDE);
        due("10", x.at(1, 9), UNKNOWN);
        due("10", x.at(-1, 0), UNKNOWN);
        due("10", x.at(16, 0), UNKNOWN);
        x.scrap(0);
        due("10 gone", x.at(0, 7), UNKNOWN);
    }

    private static void stuff() {
        WireMill x = mill(1000, 1000);
        x.coil(0, 1000, 1000, false);
        x.coil(0, 1000, 1000, false);
        x.set(4, 0);
        x.join(0, 1);
        x.join(0, 2);
        due("11 more than an int", x.stuff(0), 3000000000L);
        due("11 gone", x.stuff(1), UNKNOWN);
        due("11", x.stuff(3), UNKNOWN);
        due("11", x.stuff(-1), UNKNOWN);
        due("11", x.stuff(16), UNKNOWN);
    }

    // ---- promise 12

    private static void asks() {
        WireMill x = mill(33, 9, 32, 33);
        x.coil(0, 33, 9, false);
        x.metal(0, 7, 130, 6, 10, 5);
        x.set(0, 33);
        x.set(1, 77);
        // 65 * 700 by 100 is 455, and 150 of 150.15; 1024 * 749 by 100 is 7669 of 7669.76
        int[] want = {605, 5905, 7, 60};
        for (int i = 0; i < 4; i++) due("12 asks " + i, x.asks(0, 0, 0, i), want[i]);
        due("12 though it may not be", x.draw(0, 0, 0, 1), BRITTLE);
        due("12", x.asks(0, 0, 0, 4), OUTSIDE);
        due("12", x.asks(0, 0, 0, -1), OUTSIDE);
        due("12 as wide", x.asks(0, 0, 1, 0), NOT);
        due("12 outside ahead", x.asks(0, 0, 1, 4), OUTSIDE);
        due("12", x.asks(2, 0, 0, 9), UNKNOWN);
        due("12", x.asks(0, 4, 0, 9), UNKNOWN);
        due("12", x.asks(0, 0, 2, 9), UNKNOWN);
        x.join(0, 1);
        due("12 with joints 8 tenths first", x.asks(0, 0, 0, 1), 4723);
        due("12 with joints", x.asks(0, 0, 0, 0), 605);
        WireMill y = mill(100, 10, 90, 81);
        y.draw(0, 0, 0, 1);
        // 90 to 81 with 19: 1539 * 11900 by 100, a fifth more; 6561 * 13800 by 100, of that 80 hundredths
        int[] hard = {219769, 724334, 38, 190};
        for (int i = 0; i < 4; i++) due("12 hard " + i, y.asks(0, 0, 1, i), hard[i]);
        WireMill z = mill(1000, 1, 20);
        z.metal(0, 200, 300, 1, 0, 0);
        due("12 the most: 999600 * 20000 by 100, a fifth more", z.asks(0, 0, 0, 0), 239904000);
        due("12 above 100", z.asks(0, 0, 0, 2), 300);
    }

    // ---- promise 13

    private static void draw() {
        WireMill x = mill(100, 10, 90, 81);
        x.puller(2, PULL, 10);
        due("13", x.draw(0, 0, 0, 1), 12);
        due("13 stuff stays", x.stuff(0), 100000);
        due("13 wear 12 * 10 * 100 by 10000", x.told(0, 0, 1), 1);
        due("13 ready", x.at(0, 5), 2);
        due("13 by another, who waits for it", x.draw(0, 0, 1, 2), 15);
        due("13 two minutes and one behind it", x.at(0, 5), 5);
        due("13 both", x.ready(2), 5);
        due("13 the first is free", x.ready(1), 2);
        due("13 wear 15 * 10 * 119 by 10000", x.told(0, 1, 1), 1);
        due("13 hard", x.at(0, 2), 38);
        due("13 made", x.count(5), 2);
        x.coil(0, 100, 10, false);
        due("13 the coil waits for the puller", x.draw(1, 0, 0, 2), 12);
        due("13 from minute 5", x.at(1, 5), 8);
        WireMill y = mill(1000, 1000, 990);
        y.metal(0, 1, 0, 100, 50, 0);
        due("13", y.draw(0, 0, 0, 1), 1020);
        due("13 wear with h as it was", y.told(0, 0, 1), 510);
        due("13 the wire is as wide as the hole was", y.at(0, 1), 990);
    }

    private static void drawsRefused() {
        WireMill x = mill(100, 10, 90, 100, 60, 40);
        due("13", x.draw(1, 0, 0, 1), UNKNOWN);
        due("13", x.draw(0, 4, 0, 1), UNKNOWN);
        due("13", x.draw(0, 0, 4, 1), UNKNOWN);
        due("13", x.draw(0, 0, 0, 3), UNKNOWN);
        due("13 unknown ahead", x.draw(0, 0, 1, -1), UNKNOWN);
        due("13 as wide", x.draw(0, 0, 1, 1), NOT);
        due("13 84 above 60, and torn", x.draw(0, 0, 3, 0), BRITTLE);
        x.metal(0, 100, 100, 64, 10, 5);
        // 100 to 60: it asks 768000 and bears 472320
        due("13 torn ahead of weak", x.draw(0, 0, 2, 0), TORN);
        due("13 weak", x.draw(0, 0, 0, 0), WEAK);
        x.metal(0, 100, 100, 19, 10, 5);
        due("13 just the limit", x.draw(0, 0, 0, 1), 12);
        WireMill y = mill(200, 10, 150, 149);
        y.metal(0, 100, 0, 1, 10, 5);
        y.set(0, 0);
        y.set(1, 77);
        // 200 to 150 with friction 0: asks 17500, bears 22500 and 77 hundredths: 17325; with 78: 17550
        due("13 torn", y.draw(0, 0, 0, 1), TORN);
        y.set(1, 78);
        due("13 it bears", y.draw(0, 0, 0, 1), 17);
        WireMill e = mill(120, 10, 100);
        e.metal(0, 1, 0, 1, 0, 0);
        e.set(0, 0);
        e.set(1, 43);
        due("13 asks 4400, bears 4300", e.draw(0, 0, 0, 1), TORN);
        e.set(1, 44);
        due("13 asks 4400, bears as much", e.draw(0, 0, 0, 1), 14);
        WireMill z = mill(100, 10, 80);
        z.metal(0, 100, 0, 1, 10, 5);
        z.set(0, 0);
        z.set(1, 100);
        z.hole(0, 71);
        // 100 to 71: asks 495900, bears 504100; with joints 403280
        z.coil(0, 100, 10, false);
        z.join(0, 1);
        due("13 torn at a joint", z.draw(0, 0, 1, 1), TORN);
        z.coil(0, 100, 10, false);
        due("13 not without", z.draw(2, 0, 1, 1), 19);
    }

    /** Two rods of 1000 feet drawn to 127; then so parted that a last draw wears a hole by 50999 and by 51000. */
    private static void spent() {
        WireMill x = mill(1000, 1000, 708, 501, 355, 252, 179, 127, 99, 99);
        x.coil(0, 1000, 1000, false);
        x.coil(0, 200, 5, false);
        x.metal(0, 1, 0, 100, 0, 0);
        x.set(0, 0);
        x.set(1, 100);
        for (int i = 0; i < 6; i++) {
            x.draw(0, 0, i, 1);
            x.draw(1, 0, i, 1);
        }
        due("6 abrade 0", x.told(0, 5, 1), 0);
        x.metal(0, 1, 0, 100, 50, 0);
        x.part(0, 61981);
        x.part(1, 61982);
        due("13", x.draw(0, 0, 6, 1), 101998);
        due("13", x.draw(1, 0, 7, 1), 102000);
        due("6 wear", x.told(0, 6, 1), 50999);
        due("6 not spent", x.told(0, 6, 4), 0);
        due("6 wear", x.told(0, 7, 1), 51000);
        due("6 spent", x.told(0, 7, 4), 1);
        due("7 gauged", x.gauge(0, 7), 51);
        due("13 through the one: 200000 by 149 * 149", x.draw(2, 0, 6, 1), 9);
        x.coil(0, 200, 5, false);
        due("13 not through the spent one", x.draw(x.count(0) - 1, 0, 7, 1), NOT);
        due("12 told all the same: 17500 * 100 by 100", x.asks(x.count(0) - 1, 0, 7, 0), 40000 - 22500);
        due("19 no way through it", x.way(x.count(0) - 1, 0, 1, 150, 150), NONE);
        due("8 reamed", x.ream(0, 7, 1), 151);
        due("8 not spent then", x.told(0, 7, 4), 0);
        due("13 through it", x.draw(x.count(0) - 1, 0, 7, 1), 8);
    }

    // ---- promise 14

    private static void fire() {
        WireMill x = mill(100, 10, 90);
        x.coil(0, 100, 10, false);
        x.metal(0, 100, 100, 60, 10, 33);
        due("14 soft", x.fire(0), NOT);
        x.draw(0, 0, 0, 1);
        x.draw(1, 0, 0, 1);
        due("14 behind minute 2", x.fire(0), 62);
        due("14 soft", x.at(0, 2), 0);
        due("14 scaled 33 thousandths", x.stuff(0), 96700);
        due("14 one at a time", x.fire(1), 122);
        due("14 scaled", x.account(4), 6600);
        due("14 ready", x.at(1, 5), 122);
        due("14 fires", x.count(6), 2);
        due("14", x.fire(2), UNKNOWN);
        due("14", x.fire(-1), UNKNOWN);
        WireMill y = mill(100, 10, 90, 80);
        y.draw(0, 0, 0, 1);
        y.part(0, 1);
        y.set(3, 500);
        due("14 without feet then", y.fire(0), 502);
        due("14 it is gone", y.at(0, 1), UNKNOWN);
        due("14 scaled 40 of 8100", y.account(4), 40);
        due("14 what was left is scrap", y.account(3), 8060);
        due("14 gone", y.fire(0), UNKNOWN);
        due("14 all others are there", y.account(1), 91900);
    }

    // ---- promises 15 to 18

    private static void part() {
        WireMill x = mill(100, 10, 90);
        x.coil(0, 100, 5, true);
        x.join(0, 1);
        x.draw(0, 0, 0, 1);
        due("15 feet: 130000 by 8100", x.at(0, 3), 16);
        due("15", x.part(0, 16), OUTSIDE);
        due("15", x.part(0, 0), OUTSIDE);
        due("15", x.part(0, LEAST), OUTSIDE);
        due("15", x.part(1, 0), UNKNOWN);
        due("15", x.part(2, 0), UNKNOWN);
        due("15", x.part(0, 15), 2);
        due("15 keeps", x.stuff(0), 15 * 8100);
        due("15 all other", x.stuff(2), 130000 - 15 * 8100);
        int[] want = {0, 90, 19, 1, 1, 2, 1};
        for (int i = 0; i < 7; i++) due("15 alike " + i, x.at(2, i), want[i]);
        for (int i = 3; i < 16; i++) due("15", x.part(0, 17 - i), i);
        due("15 full", x.part(0, 1), FULL);
        due("15 outside ahead of full", x.part(0, 2), OUTSIDE);
        due("15 none lost", x.account(1), 130000);
    }

    private static void join() {
        WireMill x = mill(100, 10, 90);
        x.coil(0, 90, 3, true);
        x.coil(1, 90, 9, false);
        x.coil(0, 90, 2, false);
        x.draw(0, 0, 0, 1);
        due("16", x.join(9, 9), UNKNOWN);
        due("16", x.join(0, -1), UNKNOWN);
        due("16", x.join(0, 0), OUTSIDE);
        due("16 another metal", x.join(0, 2), NOT);
        due("16 two feet are too few", x.join(0, 3), NOT);
        due("16 three are not", x.join(1, 0), 13);
        int[] want = {0, 90, 19, 13, 1, 2, 1};
        for (int i = 0; i < 7; i++) due("16 at " + i, x.at(1, i), want[i]);
        due("16 stuff", x.stuff(1), 24300 + 100000 - 16200);
        due("16 lost", x.account(3), 16200);
        due("16 gone", x.join(1, 0), UNKNOWN);
        due("16 the first may be short", x.join(3, 1), 2 + 11);
        due("16 joints of both and one", x.at(3, 4), 2);
        due("16 bad", x.at(3, 6), 1);
        WireMill y = mill(100, 10);
        y.coil(0, 101, 10, false);
        y.coil(0, 100, 1, false);
        y.coil(0, 100, 20, false);
        due("16 another size", y.join(0, 1), NOT);
        y.set(4, 0);
        due("16 no loss, one foot", y.join(0, 2), 11);
        due("16 nothing lost", y.account(3), 0);
        due("16 not bad", y.at(0, 6), 0);
        y.set(4, 20);
        due("16 twenty are too few", y.join(0, 3), NOT);
        due("16 none was lost", y.account(1), 110000 + 102010 + 200000);
        y.set(4, 19);
        due("16 one foot comes", y.join(0, 3), 12);
    }

    private static void scrap() {
        WireMill x = mill(100, 10);
        due("17", x.scrap(1), UNKNOWN);
        due("17", x.scrap(-1), UNKNOWN);
        due("17", x.scrap(0), 1);
        due("17 scrap", x.account(3), 100000);
        due("17 gone", x.scrap(0), UNKNOWN);
        due("17 once", x.account(3), 100000);
        due("17 none in coils", x.account(1), 0);
    }

    private static void ready() {
        WireMill x = mill(100, 10, 90);
        x.draw(0, 0, 0, 1);
        x.fire(0);
        int[] want = {0, 2, 0, 62};
        for (int i = 0; i < 4; i++) due("18", x.ready(i), want[i]);
        due("18", x.ready(4), UNKNOWN);
        due("18", x.ready(-1), UNKNOWN);
        due("18", x.ready(LEAST), UNKNOWN);
    }

    // ---- promises 19 to 21

    private static void way() {
        // small draws harden by less than one, which is cut: 90, 87, 83, 81 needs no fire, 90, fire, 81 has fewer draws
        WireMill x = mill(100, 10, 90, 81, 95, 91, 87, 83);
        x.metal(0, 100, 10, 1, 10, 5);
        due("19 fewest fires first", x.way(0, 0, 1, 81, 81), 4);
        int[] steps = {0, 4, 5, 1, NONE};
        for (int i = 0; i < 5; i++) due("20 step " + i, x.step(0, 0, 1, 81, 81, i), steps[i]);
        due("19 there already", x.way(0, 0, 1, 100, 100), 0);
        due("19 there already", x.way(0, 0, 0, 20, 1000), 0);
        due("19 thicker", x.way(0, 0, 1, 101, 1000), NONE);
        due("19 no hole", x.way(0, 1, 1, 81, 81), NONE);
        due("19 who can't pull", x.way(0, 0, 2, 81, 81), NONE);
        due("19", x.way(0, 0, 1, 19, 81), OUTSIDE);
        due("19", x.way(0, 0, 1, 81, 1001), OUTSIDE);
        due("19", x.way(0, 0, 1, 82, 81), OUTSIDE);
        due("19", x.way(1, 0, 1, 82, 81), UNKNOWN);
        due("19", x.way(0, 4, 1, 82, 81), UNKNOWN);
        due("19", x.way(0, 0, 3, 82, 81), UNKNOWN);
        due("19", x.way(0, -1, 1, 20, 20), UNKNOWN);
        due("19 nothing is done", x.count(5), 0);
        WireMill y = mill(100, 10, 90);
        y.puller(0, 300000, 10);
        due("19 the wheel", y.way(0, 0, 0, 90, 90), 1);
        y.set(2, 7);
        due("19 with less water", y.way(0, 0, 0, 90, 90), NONE);
    }

    private static void step() {
        WireMill x = mill(100, 10, 90, 81, 73, 90);
        x.metal(0, 100, 100, 40, 0, 5);
        due("20 the lesser hole of two alike", x.step(0, 0, 1, 90, 90, 0), 0);
        x.draw(0, 0, 0, 1);
        due("19 a fire and a draw", x.way(0, 0, 1, 73, 73), 101);
        due("20 fire", x.step(0, 0, 1, 73, 73, 0), 8);
        due("20 then the hole", x.step(0, 0, 1, 73, 73, 1), 2);
        // 90 to 73 asks 332520: who pulls less goes by 81, and fires ahead of it or behind
        x.puller(2, 332519, 10);
        due("19 by another hole", x.way(0, 0, 2, 73, 73), 102);
        int[] steps = {1, 8, 2, NONE, NONE};
        for (int i = 0; i < 5; i++) due("20 holes ahead of fire " + i, x.step(0, 0, 2, 73, 73, i), steps[i]);
        due("20", x.step(0, 0, 2, 73, 73, MOST), NONE);
        due("20", x.step(0, 0, 2, 73, 73, -1), OUTSIDE);
        due("20", x.step(0, 0, 2, 74, 73, 0), OUTSIDE);
        due("20 unknown ahead", x.step(1, 0, 2, 74, 73, -1), UNKNOWN);
        due("20 unknown ahead", x.step(0, 4, 2, 74, 73, -1), UNKNOWN);
        due("20 unknown ahead", x.step(0, 0, 3, 74, 73, -1), UNKNOWN);
        due("20 no way", x.step(0, 0, 2, 20, 30, 0), NONE);
        due("20 no way, outside ahead", x.step(0, 0, 2, 20, 30, -1), OUTSIDE);
        due("20 there already", x.step(0, 0, 2, 90, 90, 0), NONE);
    }

    /** Each hole a tenth finer, each draw 19 harder, which is the limit: a fire ahead of each. */
    private static void longestWay() {
        WireMill x = mill(1000, 100, 387, 430, 478, 531, 590, 656, 729, 810);
        x.hole(1, 900);
        x.metal(0, 100, 100, 19, 10, 5);
        x.draw(0, 1, 0, 1);
        due("19 the longest", x.way(0, 0, 1, 387, 387), 808);
        for (int i = 0; i < 16; i++) due("20 step " + i, x.step(0, 0, 1, 387, 387, i), i % 2 == 0 ? 8 : 7 - i / 2);
        due("20 no more", x.step(0, 0, 1, 387, 387, 16), NONE);
        due("21 all of it", x.go(0, 0, 1, 387, 387), 16);
        due("21 size", x.at(0, 1), 387);
        due("21 draws", x.count(5), 9);
        due("21 fires", x.count(6), 8);
    }

    private static void go() {
        WireMill x = mill(100, 10, 90, 81, 73);
        x.metal(0, 100, 100, 40, 0, 5);
        x.draw(0, 0, 0, 1);
        x.part(0, 1);
        due("21 the fire leaves no foot: the draw can't be done", x.go(0, 0, 1, 73, 73), 1);
        due("21 gone", x.at(0, 1), UNKNOWN);
        due("21 draws", x.count(5), 1);
        due("21 fires", x.count(6), 1);
        due("21 gone", x.go(0, 0, 1, 73, 73), UNKNOWN);
        due("21 all of it", x.go(1, 0, 1, 73, 73), 2);
        due("21 size", x.at(1, 1), 73);
        due("21 hard", x.at(1, 2), 34);
        // the furnace was free at minute 62, then 122, then a minute and one
        due("21 ready", x.at(1, 5), 124);
        due("21 there already", x.go(1, 0, 1, 73, 73), 0);
        due("21 none", x.go(1, 0, 1, 20, 72), NOT);
        due("21", x.go(1, 0, 1, 72, 20), OUTSIDE);
        due("21", x.go(1, 4, 1, 72, 20), UNKNOWN);
        due("21", x.go(1, 0, 3, 72, 20), UNKNOWN);
        due("21", x.go(2, 0, 0, 72, 20), UNKNOWN);
        due("21 refused", x.count(5), 2);
    }

    // ---- promises 22 to 26

    private static void order() {
        WireMill x = new WireMill();
        due("22", x.order(-1, 0, 0, 0), UNKNOWN);
        due("22", x.order(4, 20, 20, 1), UNKNOWN);
        due("22", x.order(0, 19, 20, 1), OUTSIDE);
        due("22", x.order(0, 20, 1001, 1), OUTSIDE);
        due("22", x.order(0, 21, 20, 1), OUTSIDE);
        due("22", x.order(0, 20, 20, 0), OUTSIDE);
        due("22", x.order(0, 20, 20, 10001), OUTSIDE);
        for (int i = 0; i < 6; i++) due("22", x.order(i % 4, 20, i == 0 ? 20 : 1000, i == 1 ? 10000 : 1), i);
        due("22 full", x.order(0, 20, 20, 1), FULL);
        due("22 outside ahead of full", x.order(0, 20, 20, 0), OUTSIDE);
        due("22 not filled", x.filled(5), 0);
        due("22 how many", x.count(2), 6);
    }

    private static void cutting() {
        WireMill x = mill(300, 50);
        due("23 no order", x.cutting(), 0);
        x.order(0, 300, 300, 51);
        due("23 a foot too few", x.cutting(), 0);
        x.order(0, 301, 400, 1);
        x.order(0, 200, 299, 1);
        x.order(1, 300, 300, 1);
        due("23 not such size or metal", x.cutting(), 0);
        x.order(0, 300, 300, 30);
        x.order(0, 300, 300, 20);
        due("23 all of it", x.cutting(), 50);
        x.coil(0, 300, 51, false);
        due("23 two coils", x.cutting(), 101);
        due("23 nothing is cut", x.stuff(0), 50L * 90000);
    }

    private static void from() {
        WireMill x = mill(300, 10);
        x.coil(0, 300, 20, false);
        x.coil(0, 300, 30, false);
        x.order(0, 300, 300, 10);
        x.order(0, 300, 300, 10);
        x.order(0, 300, 300, 5);
        due("23 feet", x.cutting(), 25);
        // one coil is enough, and only coil 2 has 25 feet
        for (int i = 0; i < 3; i++) due("24 the fewest coils", x.from(i), 2);
        x.order(0, 300, 300, 10);
        due("23 feet", x.cutting(), 35);
        // two coils: 0 and 2 (10 + 25), 1 and 2, of which order 0 has the least with coil 0
        int[] want = {0, 2, 2, 2};
        for (int i = 0; i < 4; i++) due("24 the least coil " + i, x.from(i), want[i]);
        x.order(0, 300, 300, 31);
        due("24 none", x.from(4), NONE);
        due("24", x.from(5), UNKNOWN);
        due("24", x.from(-1), UNKNOWN);
        due("24", x.from(6), UNKNOWN);
        WireMill y = mill(300, 10);
        y.order(0, 300, 300, 10);
        y.order(0, 300, 300, 10);
        due("24 none is behind all", y.from(0), 0);
        due("24 none is behind all", y.from(1), NONE);
        y.order(0, 300, 300, 6);
        y.order(0, 300, 300, 4);
        due("24 one order of ten ahead of two", y.from(0), 0);
        due("24", y.from(2), NONE);
        WireMill z = mill(300, 8);
        int[] feet = {5, 4, 4, 3}, least = {0, NONE, NONE, 0};
        for (int i = 0; i < 4; i++) z.order(0, 300, 300, feet[i]);
        for (int i = 0; i < 4; i++) due("24 eight feet with order 0 ahead of eight without " + i, z.from(i), least[i]);
        WireMill u = mill(300, 5);
        u.coil(0, 300, 2, false);
        u.order(0, 300, 300, 3);
        u.order(0, 300, 300, 4);
        u.order(0, 300, 300, 1);
        u.order(0, 300, 300, 6);
        u.order(0, 300, 300, 2);
        // 7 feet at most: 4 and 1 from one, 2 from the other; or 3 and 2 from one, 1 from the other is 6
        int[] seven = {NONE, 0, 0, NONE, 1};
        due("23", u.cutting(), 7);
        for (int i = 0; i < 5; i++) due("24 the most feet " + i, u.from(i), seven[i]);
    }

    private static void cut() {
        WireMill x = mill(300, 10);
        x.coil(0, 310, 20, false);
        due("25 nothing to cut", x.cut(), 0);
        x.order(0, 300, 310, 10);
        x.order(0, 300, 310, 3);
        x.order(0, 300, 310, 2);
        x.order(0, 300, 310, 21);
        due("25", x.cut(), 3);
        // fewest coils: all from coil 1, which has 5 feet then
        due("25 delivered", x.account(2), 15L * 96100);
        due("25 left", x.at(1, 3), 5);
        due("25 the other is whole", x.at(0, 3), 10);
        due("25 filled", x.count(3), 3);
        due("25 not again", x.cut(), 0);
        due("24 filled, so in none", x.from(0), NONE);
        due("24 no coil for it", x.from(3), NONE);
        due("25 scrap", x.account(3), 0);
    }

    private static void trim() {
        WireMill x = mill(300, 10);
        x.coil(0, 300, 3, false);
        x.order(0, 300, 300, 6);
        due("25", x.cut(), 1);
        due("25 four feet are less than five", x.at(0, 3), UNKNOWN);
        due("25 scrap", x.account(3), 4L * 90000);
        due("25 one that was not used stays", x.at(1, 3), 3);
        x.order(0, 300, 300, 2);
        x.set(5, 1);
        due("25", x.cut(), 1);
        due("25 one foot is not less than one", x.at(1, 3), 1);
        x.order(0, 300, 300, 1);
        due("25", x.cut(), 1);
        due("25 no foot", x.at(1, 3), UNKNOWN);
        due("25 all accounted for", x.account(2) + x.account(3), x.account(0));
        WireMill y = mill(100, 10, 90);
        y.draw(0, 0, 0, 1);
        y.order(0, 90, 90, 12);
        y.set(5, 1);
        due("25", y.cut(), 1);
        due("25 less than a foot left is scrap", y.account(3), 100000 - 12 * 8100);
        due("25 gone", y.count(1), 0);
    }

    private static void filled() {
        WireMill x = mill(300, 10);
        x.order(0, 300, 300, 6);
        x.order(0, 300, 300, 5);
        due("26", x.filled(0), 0);
        x.cut();
        due("26 filled", x.filled(0), 1);
        due("26 not filled", x.filled(1), 0);
        due("26", x.filled(2), UNKNOWN);
        due("26", x.filled(-1), UNKNOWN);
        due("26", x.filled(6), UNKNOWN);
    }

    // ---- promises 27 to 31

    private static void notes(WireMill x, int many, int bits, boolean broke) {
        for (int i = 0; i < many; i++) x.note(bits, broke);
    }

    private static void note() {
        WireMill x = new WireMill();
        due("27", x.note(-1, true), OUTSIDE);
        due("27", x.note(8, false), OUTSIDE);
        due("27", x.note(MOST, false), OUTSIDE);
        for (int i = 1; i <= 60; i++) due("27", x.note(i % 8, i % 3 == 0), i);
        due("27 full", x.note(0, true), FULL);
        due("27 outside ahead of full", x.note(8, true), OUTSIDE);
        due("27 how many", x.count(4), 60);
    }

    private static void tally() {
        WireMill x = new WireMill();
        notes(x, 1, 0, true);
        notes(x, 2, 1, false);
        notes(x, 3, 3, true);
        notes(x, 5, 6, false);
        notes(x, 7, 7, true);
        int[][] want = {{10, 2, 1, 5}, {10, 5, 1, 2}, {7, 5, 4, 2}};
        for (int i = 0; i < 3; i++) {
            for (int k = 0; k < 4; k++) due("28 " + i + " " + k, x.tally(i, k), want[i][k]);
        }
        due("28", x.tally(0, 4), OUTSIDE);
        due("28", x.tally(0, -1), OUTSIDE);
        due("28", x.tally(3, 4), UNKNOWN);
        due("28", x.tally(-1, 0), UNKNOWN);
    }

    private static void by() {
        WireMill x = new WireMill();
        due("29 none", x.by(0, 0), LEAST);
        notes(x, 2, 1, true);
        due("29 c + d is 0", x.by(0, 1), LEAST);
        due("29 a + b is 0", x.by(1, 1), LEAST);
        notes(x, 2, 1, false);
        notes(x, 1, 2, true);
        notes(x, 3, 0, false);
        // 2 of 4 less 1 of 4; of WORN 1 of 1 less 2 of 7
        due("29 above", x.by(0, 0), 1);
        due("29 below", x.by(0, 1), 4);
        due("29 above", x.by(1, 0), 5);
        due("29 below", x.by(1, 1), 7);
        due("29", x.by(0, 2), LEAST);
        due("29", x.by(0, -1), LEAST);
        due("29", x.by(3, 0), LEAST);
        due("29", x.by(-1, 0), LEAST);
        WireMill y = new WireMill();
        notes(y, 1, 1, true);
        notes(y, 2, 1, false);
        notes(y, 4, 4, true);
        notes(y, 2, 4, false);
        due("29 1 of 3 less 4 of 6: below 0", y.by(0, 0), -1);
        due("29", y.by(0, 1), 3);
        notes(y, 6, 4, false);
        due("29 1 of 3 less 4 of 12: nothing", y.by(0, 0), 0);
        due("29 nothing of 1", y.by(0, 1), 1);
    }

    private static void chance() {
        WireMill x = new WireMill();
        due("30", x.chance(0), 0);
        notes(x, 3, 1, true);
        notes(x, 2, 0, false);
        due("30 one of ten", x.chance(0), 0);
        notes(x, 1, 0, false);
        due("30 one of twenty", x.chance(0), 1);
        due("30 those without", x.chance(1), 0);
        due("30", x.chance(3), UNKNOWN);
        due("30", x.chance(-1), UNKNOWN);
        WireMill y = new WireMill();
        y.note(4, true);
        notes(y, 18, 0, false);
        due("30 one of nineteen", y.chance(2), 0);
        y.note(0, false);
        due("30 one of twenty", y.chance(2), 1);
        // with 30 of 60 and 30 broken: 19 or more are 3.5 hundredths, 18 or more 9.8
        int[] want = {0, 1};
        for (int i = 0; i < 2; i++) {
            WireMill z = new WireMill();
            notes(z, 18 + i, 2, true);
            notes(z, 12 - i, 2, false);
            notes(z, 12 - i, 0, true);
            notes(z, 18 + i, 0, false);
            due("30 of sixty " + i, z.chance(1), want[i]);
        }
    }

    private static void cause() {
        WireMill x = new WireMill();
        due("31", x.cause(), NONE);
        notes(x, 6, 3, true);
        notes(x, 1, 1, false);
        notes(x, 6, 0, false);
        due("31 hard too", x.chance(0), 1);
        due("31 the greater", x.cause(), 1);
        notes(x, 1, 2, false);
        due("31 the least of two alike", x.cause(), 0);
        WireMill y = new WireMill();
        notes(y, 5, 4, true);
        notes(y, 5, 3, false);
        due("31 bad rods", y.cause(), 2);
        notes(y, 20, 4, false);
        due("31 none", y.cause(), NONE);
    }

    // ---- promises 32 and 33

    private static void account() {
        WireMill x = mill(100, 10, 90);
        x.coil(0, 90, 20, false);
        x.draw(0, 0, 0, 1);
        x.fire(0);
        x.join(1, 0);
        x.order(0, 90, 90, 10);
        x.cut();
        long[] want = {262000, 262000 - 500 - 16200 - 81000, 81000, 16200, 500};
        for (int i = 0; i < 5; i++) due("32 " + i, x.account(i), want[i]);
        due("32", x.account(5), OUTSIDE);
        due("32", x.account(-1), OUTSIDE);
        WireMill y = mill(1000, 1000);
        for (int i = 1; i < 16; i++) y.coil(0, 1000, 1000, false);
        due("32 more than an int", y.account(0), 16000000000L);
        due("32 more than an int", y.account(1), 16000000000L);
        for (int i = 0; i < 16; i++) y.scrap(i);
        due("32 more than an int", y.account(3), 16000000000L);
    }

    private static void count() {
        WireMill x = mill(100, 10, 90);
        x.coil(0, 90, 20, false);
        x.draw(0, 0, 0, 1);
        x.draw(0, 0, 0, 1);
        x.fire(0);
        x.fire(0);
        x.join(1, 0);
        x.order(0, 90, 90, 10);
        x.order(0, 90, 90, 100);
        x.cut();
        notes(x, 3, 0, true);
        int[] want = {2, 1, 2, 1, 3, 1, 1};
        for (int i = 0; i < 7; i++) due("33 " + i, x.count(i), want[i]);
        due("33", x.count(7), OUTSIDE);
        due("33", x.count(-1), OUTSIDE);
    }
}
