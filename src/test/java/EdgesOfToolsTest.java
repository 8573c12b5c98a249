/** Promises 1 to 8 and the terms behind them: the edges of metals, settings, pullers and holes. */
public final class EdgesOfToolsTest {
    private static final int NONE = -1, UNKNOWN = -2, OUTSIDE = -3, NOT = -4, BRITTLE = -5, WEAK = -7, FULL = -8;

    private static final Checks CHECKS = new Checks();

    public static void main(String[] args) {
        nothingAtFirst(); fiveHundredAndTwelveCalls();
        metals(); base(); gain(); limit(); abrade(); scale();
        whatIsSet(); friction(); safe(); water(); heat(); loss(); shortFeet();
        pullers(); pullAtFirst(); pull(); speed();
        plates(); eightHoles(); nominal(); newHole(); toldOf(); holesThatAreNot(); wide(); spent();
        gauge(); reamBy(); reamTwice(); reamAbove1000(); reamFromWide(); reamedSpent();
        CHECKS.end();
    }

    private static void says(String sentence) {
        CHECKS.says(sentence);
    }

    private static void due(String call, long got, long want) {
        CHECKS.due(call, got, want);
    }

    // ---- promise 1

    private static void nothingAtFirst() {
        says("No COILS, HOLES, ORDERS, NOTES");
        WireMill x = new WireMill();
        for (int i = 0; i < 7; i++) due("count " + i, x.count(i), 0);
        for (int i = 0; i < 5; i++) due("account " + i, x.account(i), 0);
        for (int i = 0; i < 4; i++) due("ready " + i, x.ready(i), 0);
        for (int i = 0; i < 16; i++) due("coil " + i, x.stuff(i), UNKNOWN);
        for (int i = 0; i < 32; i++) due("hole " + i, x.gauge(i / 8, i % 8), UNKNOWN);
        for (int i = 0; i < 6; i++) due("order " + i, x.filled(i), UNKNOWN);
        for (int i = 0; i < 12; i++) due("tally " + i, x.tally(i / 4, i % 4), 0);
        due("cutting", x.cutting(), 0);
        due("cut", x.cut(), 0);
        due("cause", x.cause(), NONE);
        due("the first coil", x.coil(0, 20, 1, false), 0);
        for (int i = 0; i < 4; i++) due("the first hole of plate " + i, x.hole(i, 20), 0);
        due("the first order", x.order(0, 20, 20, 1), 0);
        due("the first note", x.note(0, false), 1);
        due("another object has its own", new WireMill().count(0), 0);
    }

    private static void fiveHundredAndTwelveCalls() {
        says("An object is used for at most 512 calls");
        WireMill x = new WireMill();
        for (int i = 1; i < 512; i++) x.set(3, i % 500 + 1);
        due("the last of them", x.set(3, 1), 511 % 500 + 1);
        WireMill y = Mills.with(100, 10, 90, 81, 73);
        for (int i = 5; i < 511; i++) y.way(0, 0, 1, 73, 73);
        due("the last of them: from 100 to 73 h' is 46, it asks 560520 and bears 622427", y.way(0, 0, 1, 73, 73), 1);
    }

    // ---- promise 2

    private static void metals() {
        says("METALS are 0 .. 3");
        WireMill x = new WireMill();
        for (int i = 0; i < 4; i++) due("metal " + i, x.metal(i, 100, 100, 60, 10, 5), 1);
        for (int i : Mills.outside(0, 3)) {
            due("metal " + i, x.metal(i, 100, 100, 60, 10, 5), UNKNOWN);
            due("a coil of metal " + i, x.coil(i, 100, 1, false), UNKNOWN);
            due("an order of metal " + i, x.order(i, 100, 100, 1), UNKNOWN);
        }
        for (int i = 0; i < 4; i++) due("a coil of metal " + i, x.coil(i, 100, 1, false), i);
        for (int i = 0; i < 4; i++) due("an order of metal " + i, x.order(i, 100, 100, 1), i);
        x.hole(0, 90);
        x.metal(2, 200, 100, 60, 10, 5);
        for (int i = 0; i < 4; i++) due("each has its own base " + i, x.asks(i, 0, 0, 0), i == 2 ? 456000 : 228000);
    }

    private static void base() {
        says("BASE (1 .. 200; 100 at first)");
        WireMill x = Mills.with(100, 10, 90);
        x.set(0, 0);
        due("at first", x.asks(0, 0, 0, 0), 190000);
        due("1", x.metal(0, 1, 100, 60, 10, 5), 1);
        due("asks with 1", x.asks(0, 0, 0, 0), 1900);
        due("200", x.metal(0, 200, 100, 60, 10, 5), 1);
        for (int v : Mills.outside(1, 200)) due("base " + v, x.metal(0, v, 100, 60, 10, 5), OUTSIDE);
        due("asks with 200 still", x.asks(0, 0, 0, 0), 380000);
    }

    private static void gain() {
        says("GAIN (0 .. 300; 100)");
        // a thousand thousandths thinner, so that h' is all of the gain
        WireMill x = Mills.with(1000, 1, 31);
        due("at first", x.asks(0, 0, 0, 2), 100);
        due("0", x.metal(0, 100, 0, 60, 10, 5), 1);
        due("h' with 0", x.asks(0, 0, 0, 2), 0);
        due("300", x.metal(0, 100, 300, 60, 10, 5), 1);
        for (int v : Mills.outside(0, 300)) due("gain " + v, x.metal(0, 100, v, 60, 10, 5), OUTSIDE);
        due("h' with 300 still", x.asks(0, 0, 0, 2), 300);
    }

    private static void limit() {
        says("LIMIT (1 .. 100; 60)");
        // to 632 h' is 60, to 625 it is 61
        WireMill x = Mills.with(1000, 1, 632, 625);
        x.set(0, 0);
        x.set(1, 100);
        due("at first 61", x.draw(0, 0, 1, 1), BRITTLE);
        due("at first 60", x.draw(0, 0, 0, 1), 2);
        // with gain 300 to 815 h' is 100, to 814 it is 101
        WireMill y = Mills.with(1000, 1, 815, 814);
        due("100", y.metal(0, 100, 300, 100, 10, 5), 1);
        for (int v : Mills.outside(1, 100)) due("limit " + v, y.metal(0, 100, 300, v, 10, 5), OUTSIDE);
        due("101 with 100", y.draw(0, 0, 1, 1), BRITTLE);
        due("100 with 100", y.draw(0, 0, 0, 1), 1);
        due("it is 100 hard", y.at(0, 2), 100);
        // with gain 10 to 90 h' is 1, to 89 it is 2
        WireMill z = Mills.with(100, 10, 90, 89);
        due("1", z.metal(0, 100, 10, 1, 10, 5), 1);
        due("2 with 1", z.draw(0, 0, 1, 1), BRITTLE);
        due("1 with 1", z.draw(0, 0, 0, 1), 12);
    }

    private static void abrade() {
        says("ABRADE (0 .. 50; 10)");
        // 810 feet of 100 are 1000 feet of 90
        WireMill x = Mills.with(100, 810, 90, 90, 90);
        x.coil(0, 100, 810, false);
        x.coil(0, 100, 810, false);
        x.draw(0, 0, 0, 1);
        due("at first", x.told(0, 0, 1), 100);
        due("0", x.metal(0, 100, 100, 60, 0, 5), 1);
        x.draw(1, 0, 1, 1);
        due("wear with 0", x.told(0, 1, 1), 0);
        due("50", x.metal(0, 100, 100, 60, 50, 5), 1);
        for (int v : Mills.outside(0, 50)) due("abrade " + v, x.metal(0, 100, 100, 60, v, 5), OUTSIDE);
        x.draw(2, 0, 2, 1);
        due("wear with 50 still", x.told(0, 2, 1), 500);
    }

    private static void scale() {
        says("SCALE (0 .. 50 thousandths; 5)");
        WireMill x = Mills.with(100, 10, 90);
        x.coil(0, 100, 10, false);
        x.coil(0, 100, 10, false);
        for (int i = 0; i < 3; i++) x.draw(i, 0, 0, 1);
        x.fire(0);
        due("at first", x.stuff(0), 99500);
        due("0", x.metal(0, 100, 100, 60, 10, 0), 1);
        x.fire(1);
        due("stuff with 0", x.stuff(1), 100000);
        due("50", x.metal(0, 100, 100, 60, 10, 50), 1);
        for (int v : Mills.outside(0, 50)) due("scale " + v, x.metal(0, 100, 100, 60, 10, v), OUTSIDE);
        x.fire(2);
        due("stuff with 50 still", x.stuff(2), 95000);
    }

    // ---- promise 3

    private static void whatIsSet() {
        says("FRICTION (what 0) .. SHORT (5): that which it was. OUTSIDE");
        WireMill x = new WireMill();
        for (int what : Mills.outside(0, 5)) due("what " + what, x.set(what, 10), OUTSIDE);
        int[] atFirst = {20, 80, 10, 60, 2, 5};
        for (int i = 0; i < 6; i++) due("at first " + i, x.set(i, 10), atFirst[i]);
        for (int i = 0; i < 6; i++) due("each its own, set to what it is " + i, x.set(i, 10), 10);
        for (int i = 0; i < 6; i++) due("no other was changed " + i, x.set(i, 10), 10);
    }

    private static void refusedOutside(WireMill x, int what, int low, int high) {
        for (int v : Mills.outside(low, high)) due("what " + what + " to " + v, x.set(what, v), OUTSIDE);
    }

    private static void friction() {
        says("FRICTION (0 .. 100; 20 at first)");
        WireMill x = Mills.with(100, 10, 90);
        due("asks at first", x.asks(0, 0, 0, 0), 228000);
        due("0", x.set(0, 0), 20);
        due("asks with 0", x.asks(0, 0, 0, 0), 190000);
        due("100", x.set(0, 100), 0);
        refusedOutside(x, 0, 0, 100);
        due("asks with 100 still", x.asks(0, 0, 0, 0), 380000);
        due("it was", x.set(0, 20), 100);
    }

    private static void safe() {
        says("SAFE hundredths (10 .. 100; 80 at first)");
        WireMill x = Mills.with(100, 10, 90);
        due("bears at first", x.asks(0, 0, 0, 1), 771120);
        due("10", x.set(1, 10), 80);
        due("bears with 10", x.asks(0, 0, 0, 1), 96390);
        due("100", x.set(1, 100), 10);
        refusedOutside(x, 1, 10, 100);
        due("bears with 100 still", x.asks(0, 0, 0, 1), 963900);
        due("it was", x.set(1, 80), 100);
    }

    private static void water() {
        says("WATER (0 .. 10; 10 at first): PULLER 0 (the wheel) has WATER tenths of its PULL, cut");
        WireMill x = Mills.with(100, 10, 90);
        for (int i = 1; i < 4; i++) x.coil(0, 100, 10, false);
        x.puller(0, 228000, 100);
        due("all of it at first", x.draw(0, 0, 0, 0), 12);
        due("0", x.set(2, 0), 10);
        x.puller(0, Mills.PULL, 100);
        due("nothing with 0", x.draw(1, 0, 0, 0), WEAK);
        due("others need no water", x.draw(1, 0, 0, 1), 12);
        due("1", x.set(2, 1), 0);
        x.puller(0, 2279999, 100);
        due("a tenth, cut, is 227999", x.draw(2, 0, 0, 0), WEAK);
        x.puller(0, 2280000, 100);
        due("a tenth is 228000", x.draw(2, 0, 0, 0), 12);
        due("10", x.set(2, 10), 1);
        refusedOutside(x, 2, 0, 10);
        x.puller(0, 227999, 100);
        due("all of it, one too little", x.draw(3, 0, 0, 0), WEAK);
        x.puller(0, 228000, 100);
        due("all of it still", x.draw(3, 0, 0, 0), 12);
    }

    private static void heat() {
        says("FIRE takes HEAT minutes (1 .. 500; 60 at first)");
        WireMill x = Mills.with(100, 10, 90);
        x.coil(0, 100, 10, false);
        x.coil(0, 100, 10, false);
        for (int i = 0; i < 3; i++) x.draw(i, 0, 0, 1);
        due("at first, behind minute 2", x.fire(0), 62);
        due("1", x.set(3, 1), 60);
        due("a minute", x.fire(1), 63);
        due("500", x.set(3, 500), 1);
        refusedOutside(x, 3, 1, 500);
        due("500 minutes still", x.fire(2), 563);
    }

    private static void loss() {
        says("LOSS feet (0 .. 20; 2 at first)");
        WireMill x = Mills.with(100, 10);
        int[] feet = {3, 1, 21, 20};
        for (int f : feet) x.coil(0, 100, f, false);
        due("one of three feet comes at first", x.join(0, 1), 11);
        due("0", x.set(4, 0), 2);
        due("all of one foot comes", x.join(0, 2), 12);
        due("20", x.set(4, 20), 0);
        refusedOutside(x, 4, 0, 20);
        due("of twenty none would come", x.join(0, 4), NOT);
        due("one of twenty-one comes", x.join(0, 3), 13);
        due("scrap", x.account(3), 22 * 10000);
    }

    /** Each coil has a size of its own and an order for ten feet of it: so many feet are left. */
    private static void shortFeet() {
        says("becomes SCRAP, if it has less than SHORT FEET (1 .. 100; 5 at first)");
        WireMill x = new WireMill();
        int[] left = {4, 5, 0, 1, 99, 100};
        for (int i = 0; i < 6; i++) {
            x.coil(0, 300 + i, 10 + left[i], false);
            if (i == 2) due("1", x.set(5, 1), 5);
            if (i == 4) due("100", x.set(5, 100), 1);
            if (i == 4) refusedOutside(x, 5, 1, 100);
            x.order(0, 300 + i, 300 + i, 10);
            due("cut", x.cut(), 1);
            due("left of " + left[i], x.at(i, 3), i % 2 == 0 ? UNKNOWN : left[i]);
        }
    }

    // ---- promise 4

    private static void pullers() {
        says("PULLERS are 0 .. 2");
        WireMill x = Mills.with(100, 10, 90);
        for (int i = 0; i < 3; i++) due("puller " + i, x.puller(i, 0, 10), 1);
        for (int i : Mills.outside(0, 2)) {
            due("puller " + i, x.puller(i, 0, 10), UNKNOWN);
            due("a draw by " + i, x.draw(0, 0, 0, i), UNKNOWN);
            due("a way by " + i, x.way(0, 0, i, 90, 90), UNKNOWN);
        }
        x.puller(1, Mills.PULL, 10);
        due("each has its own pull", x.draw(0, 0, 0, 0), WEAK);
        due("each has its own pull", x.draw(0, 0, 0, 2), WEAK);
        due("each has its own pull", x.draw(0, 0, 0, 1), 12);
    }

    private static void pullAtFirst() {
        says("PULL (0 .. 100000000; 0 at first)");
        // the least that a draw can ask for
        WireMill x = new WireMill();
        x.metal(0, 1, 0, 100, 0, 0);
        x.set(0, 0);
        x.coil(0, 21, 1, false);
        x.hole(0, 20);
        due("asks", x.asks(0, 0, 0, 0), 41);
        for (int i = 0; i < 3; i++) due("by " + i, x.draw(0, 0, 0, i), WEAK);
        due("40", x.puller(2, 40, 10), 1);
        due("with 40", x.draw(0, 0, 0, 2), WEAK);
        due("0", x.puller(2, 0, 10), 1);
        due("with 0", x.draw(0, 0, 0, 2), WEAK);
        due("41", x.puller(2, 41, 10), 1);
        due("with 41", x.draw(0, 0, 0, 2), 1);
    }

    private static void pull() {
        says("PULL (0 .. 100000000; 0 at first)");
        WireMill x = Mills.with(725, 1, 525);
        x.metal(0, 200, 211, 100, 0, 0);
        x.set(0, 100);
        x.set(1, 100);
        x.coil(0, 726, 1, false);
        due("the most", x.puller(2, 100000000, 10), 1);
        for (int v : Mills.outside(0, 100000000)) due("pull " + v, x.puller(2, v, 10), OUTSIDE);
        due("asks more", x.asks(1, 0, 0, 0), 100580400);
        due("more than the most", x.draw(1, 0, 0, 2), WEAK);
        due("asks as much", x.asks(0, 0, 0, 0), 100000000);
        due("the most still", x.draw(0, 0, 0, 2), 1);
    }

    /** From 100 to 99 ten feet stay ten and eleven stay eleven, 981 and 982 are 1000 and 1001. */
    private static void speed() {
        says("SPEED (10 .. 1000 feet a minute; 10)");
        WireMill x = Mills.plain(100, 10, 99);
        for (int feet : new int[] {11, 981, 982}) x.coil(0, 100, feet, false);
        due("10", x.puller(2, Mills.PULL, 10), 1);
        due("ten feet", x.draw(0, 0, 0, 2), 10);
        due("a minute and one", x.ready(2), 2);
        due("eleven feet", x.draw(1, 0, 0, 2), 11);
        due("two minutes and one", x.ready(2), 5);
        due("1000", x.puller(2, Mills.PULL, 1000), 1);
        for (int v : Mills.outside(10, 1000)) due("speed " + v, x.puller(2, Mills.PULL, v), OUTSIDE);
        due("a thousand feet", x.draw(2, 0, 0, 2), 1000);
        due("a minute and one", x.ready(2), 7);
        due("a thousand and one", x.draw(3, 0, 0, 2), 1001);
        due("two minutes and one", x.ready(2), 10);
    }

    // ---- promises 5 and 6

    private static void plates() {
        says("PLATES are 0 .. 3");
        WireMill x = Mills.with(100, 10);
        for (int i = 0; i < 4; i++) due("plate " + i, x.hole(i, 50 + i), 0);
        for (int i = 0; i < 4; i++) due("each has its own " + i, x.told(i, 0, 0), 50 + i);
        for (int i : Mills.outside(0, 3)) {
            due("hole in plate " + i, x.hole(i, 50), UNKNOWN);
            due("told of plate " + i, x.told(i, 0, 0), UNKNOWN);
            due("gauge in plate " + i, x.gauge(i, 0), UNKNOWN);
            due("ream in plate " + i, x.ream(i, 0, 1), UNKNOWN);
            due("asks in plate " + i, x.asks(0, i, 0, 0), UNKNOWN);
            due("draw in plate " + i, x.draw(0, i, 0, 1), UNKNOWN);
            due("way in plate " + i, x.way(0, i, 1, 50, 50), UNKNOWN);
        }
    }

    private static void eightHoles() {
        says("each with HOLES 0 .. n - 1 (8 at most)");
        WireMill x = new WireMill();
        for (int p = 0; p < 4; p++) {
            for (int i = 0; i < 8; i++) {
                due("there is no " + i + " yet", x.told(p, i, 0), UNKNOWN);
                due("number " + i, x.hole(p, 100 + 10 * p + i), i);
            }
            due("a ninth in plate " + p, x.hole(p, 20), FULL);
            due("no number 8", x.told(p, 8, 0), UNKNOWN);
            for (int i = 0; i < 8; i++) due("all are there", x.told(p, i, 0), 100 + 10 * p + i);
        }
    }

    private static void nominal() {
        says("of a NOMINAL size (20 .. 1000)");
        WireMill x = new WireMill();
        due("20", x.hole(0, 20), 0);
        due("1000", x.hole(0, 1000), 1);
        for (int v : Mills.outside(20, 1000)) due("nominal " + v, x.hole(0, v), OUTSIDE);
        due("none came by that", x.hole(0, 500), 2);
        due("20", x.told(0, 0, 0), 20);
        due("1000", x.told(0, 1, 0), 1000);
    }

    private static void newHole() {
        says("with WEAR (0 at first) and REAMS (0)");
        WireMill x = new WireMill();
        x.hole(2, 77);
        int[] want = {77, 0, 77, 0, 0};
        for (int i = 0; i < 5; i++) due("told " + i, x.told(2, 0, i), want[i]);
    }

    private static void toldOf() {
        says("Of a HOLE: 0 NOMINAL, 1 WEAR, 2 WIDE, 3 REAMS, 4 whether it is SPENT (1, 0). OUTSIDE");
        WireMill x = Mills.worn(51000);
        int[] want = {99, 51000, 150, 0, 1};
        for (int i = 0; i < 5; i++) due("told " + i, x.told(0, 0, i), want[i]);
        for (int what : Mills.outside(0, 4)) due("told " + what, x.told(0, 0, what), OUTSIDE);
    }

    private static void holesThatAreNot() {
        says("UNKNOWN (no such .. HOLE");
        WireMill x = Mills.with(100, 10, 90, 80, 70);
        for (int hole : new int[] {3, 7, 8, -1, Mills.LEAST, Mills.MOST}) {
            due("told of " + hole, x.told(0, hole, 0), UNKNOWN);
            due("gauge " + hole, x.gauge(0, hole), UNKNOWN);
            due("ream " + hole, x.ream(0, hole, 1), UNKNOWN);
            due("asks of " + hole, x.asks(0, 0, hole, 0), UNKNOWN);
            due("draw through " + hole, x.draw(0, 0, hole, 1), UNKNOWN);
        }
        due("a plate without holes", x.gauge(1, 0), UNKNOWN);
        due("the last that is", x.told(0, 2, 0), 70);
    }

    private static void wide() {
        says("WIDE is NOMINAL and WEAR by a thousand, cut");
        int[][] want = {{1, 99}, {999, 99}, {1000, 100}, {1001, 100}, {1999, 100}, {2000, 101}};
        for (int[] one : want) {
            WireMill x = Mills.worn(one[0]);
            due("wear", x.told(0, 0, 1), one[0]);
            due("wide with wear " + one[0], x.told(0, 0, 2), one[1]);
            due("nominal stays", x.told(0, 0, 0), 99);
            x.coil(0, 101, 100, false);
            x.draw(2, 0, 0, 1);
            due("a wire drawn is as thick", x.at(2, 1), one[1]);
        }
    }

    private static void spent() {
        says("A HOLE is SPENT, if WIDE is above NOMINAL and 50");
        WireMill x = Mills.worn(50999);
        due("wide", x.told(0, 0, 2), 149);
        due("50 above", x.told(0, 0, 4), 0);
        x.coil(0, 200, 1, false);
        due("a draw", x.draw(2, 0, 0, 1), 1);
        WireMill y = Mills.worn(51000);
        due("wide", y.told(0, 0, 2), 150);
        due("51 above", y.told(0, 0, 4), 1);
        y.coil(0, 200, 1, false);
        due("no draw", y.draw(2, 0, 0, 1), NOT);
        due("what it would ask", y.asks(2, 0, 0, 0), 17500);
    }

    // ---- promises 7 and 8

    private static void gauge() {
        says("GAUGED a HOLE tells WIDE less NOMINAL");
        int[][] want = {{999, 0}, {1000, 1}, {50999, 50}, {51000, 51}};
        for (int[] one : want) due("wear " + one[0], Mills.worn(one[0]).gauge(0, 0), one[1]);
        WireMill x = Mills.worn(1000);
        x.ream(0, 0, 50);
        due("reamed", x.gauge(0, 0), 0);
    }

    private static void reamBy() {
        says("REAMED a HOLE becomes by (1 .. 50) more NOMINAL");
        WireMill x = new WireMill();
        x.hole(0, 100);
        for (int by : Mills.outside(1, 50)) due("by " + by, x.ream(0, 0, by), OUTSIDE);
        due("not reamed by that", x.told(0, 0, 3), 0);
        due("by 1", x.ream(0, 0, 1), 101);
        due("by 50", x.ream(0, 0, 50), 151);
        due("nominal", x.told(0, 0, 0), 151);
    }

    private static void reamTwice() {
        says("REAMS one more (2 at most); NOT: it was twice");
        WireMill x = new WireMill();
        x.hole(0, 100);
        x.hole(0, 200);
        due("once", x.ream(0, 0, 10), 110);
        due("reams", x.told(0, 0, 3), 1);
        due("twice", x.ream(0, 0, 10), 120);
        due("reams", x.told(0, 0, 3), 2);
        due("a third time", x.ream(0, 0, 10), NOT);
        due("reams", x.told(0, 0, 3), 2);
        due("nominal", x.told(0, 0, 0), 120);
        due("another hole", x.told(0, 1, 3), 0);
        due("another hole", x.ream(0, 1, 10), 210);
    }

    private static void reamAbove1000() {
        says("NOT: .. or would be above 1000");
        WireMill x = new WireMill();
        int[] holes = {950, 951, 999, 1000};
        for (int nominal : holes) x.hole(0, nominal);
        due("just 1000", x.ream(0, 0, 50), 1000);
        due("1001", x.ream(0, 0, 1), NOT);
        due("1001", x.ream(0, 1, 50), NOT);
        due("not reamed by that", x.told(0, 1, 3), 0);
        due("a little less", x.ream(0, 1, 49), 1000);
        due("just 1000", x.ream(0, 2, 1), 1000);
        due("1001", x.ream(0, 3, 1), NOT);
    }

    /** Two rods of 1000 feet of 1000 wear a hole of 999 by 501 each, if abrade is 50. */
    private static void reamFromWide() {
        says("by (1 .. 50) more NOMINAL than it is WIDE, WEAR 0");
        WireMill x = Mills.plain(1000, 1000, 999, 999);
        x.coil(0, 1000, 1000, false);
        x.coil(0, 1000, 1000, false);
        x.metal(0, 1, 0, 100, 50, 0);
        for (int i = 0; i < 2; i++) x.draw(i, 0, 0, 1);
        x.draw(2, 0, 1, 1);
        due("wide", x.told(0, 0, 2), 1000);
        due("1001", x.ream(0, 0, 1), NOT);
        int[] want = {999, 1002, 1000, 0, 0};
        for (int i = 0; i < 5; i++) due("refused, told " + i, x.told(0, 0, i), want[i]);
        due("wear", x.told(0, 1, 1), 501);
        due("1000", x.ream(0, 1, 1), 1000);
        due("no wear then", x.told(0, 1, 1), 0);
        WireMill y = Mills.worn(1000);
        due("more than 100", y.ream(0, 0, 1), 101);
        int[] then = {101, 0, 101, 1, 0};
        for (int i = 0; i < 5; i++) due("reamed, told " + i, y.told(0, 0, i), then[i]);
    }

    private static void reamedSpent() {
        says("REAMED .. WEAR 0: a HOLE that was SPENT is not");
        WireMill x = Mills.worn(51000);
        x.coil(0, 200, 1, false);
        due("reamed", x.ream(0, 0, 1), 151);
        due("not spent", x.told(0, 0, 4), 0);
        due("a draw", x.draw(2, 0, 0, 1), 1);
        due("the wire", x.at(2, 1), 151);
    }
}
