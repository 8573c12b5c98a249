/** Promises 19 to 21 and the terms behind them: the edges of ways. */
public final class EdgesOfWaysTest {
    private static final int NONE = -1, UNKNOWN = -2, OUTSIDE = -3, NOT = -4;
    private static final int FIRE = 8;

    private static final Checks CHECKS = new Checks();

    public static void main(String[] args) {
        lowAndHigh(); sizeFromLowToHigh(); thereAlready(); noHoles();
        brittleIsNoStep(); tornIsNoStep(); weakIsNoStep(); spentIsNoStep(); asWideIsNoStep();
        fireOnlyTheHard(); fireFirst(); fewestFires(); fewestDraws(); lesserHoleAhead(); fireBehindAll(); longest(); hardest();
        asItIsNow(); nothingIsDone();
        stepNumbers(); stepsOfNone();
        goAll(); goNowhere(); goNone(); goUntilGone(); goUntilGoneInTheMidst();
        CHECKS.end();
    }

    private static void says(String sentence) {
        CHECKS.says(sentence);
    }

    private static void due(String call, long got, long want) {
        CHECKS.due(call, got, want);
    }

    /** The way of coil 0 in plate 0 by puller 1 to just this size, in all that way and step tell. */
    private static void dueWay(WireMill x, int size, int price, int... steps) {
        due("way", x.way(0, 0, 1, size, size), price);
        for (int i = 0; i < steps.length; i++) due("step " + i, x.step(0, 0, 1, size, size, i), steps[i]);
        due("no more steps", x.step(0, 0, 1, size, size, steps.length), NONE);
    }

    // ---- promise 19

    private static void dueOutside(WireMill x, int low, int high) {
        String range = " from " + low + " to " + high;
        due("way" + range, x.way(0, 0, 1, low, high), OUTSIDE);
        due("step" + range, x.step(0, 0, 1, low, high, 0), OUTSIDE);
        due("go" + range, x.go(0, 0, 1, low, high), OUTSIDE);
    }

    private static void lowAndHigh() {
        says("OUTSIDE: low, high (20 .. 1000, not below low)");
        WireMill x = Mills.with(100, 10, 90, 20);
        for (int v : Mills.outside(20, 1000)) {
            dueOutside(x, v, 1000);
            dueOutside(x, 20, v);
            dueOutside(x, v, v);
        }
        dueOutside(x, 91, 90);
        dueOutside(x, 1000, 20);
        dueOutside(x, 101, 100);
        due("nothing was done", x.at(0, 1), 100);
        due("20 and 1000", x.way(0, 0, 1, 20, 1000), 0);
        due("both 20", x.way(0, 0, 1, 20, 20), NONE);
        due("both 1000", x.way(0, 0, 1, 1000, 1000), NONE);
        due("both 90", x.way(0, 0, 1, 90, 90), 1);
    }

    private static void sizeFromLowToHigh() {
        says("behind which the SIZE is from low to high");
        WireMill x = Mills.with(100, 10, 90);
        due("low is 90", x.way(0, 0, 1, 90, 99), 1);
        due("low is 91", x.way(0, 0, 1, 91, 99), NONE);
        due("high is 90", x.way(0, 0, 1, 80, 90), 1);
        due("high is 89", x.way(0, 0, 1, 80, 89), NONE);
        due("both are 90", x.way(0, 0, 1, 90, 90), 1);
    }

    private static void thereAlready() {
        says("a row of steps, behind which the SIZE is from low to high: none are needed");
        WireMill x = Mills.with(100, 10, 100, 99);
        int[][] ranges = {{100, 100}, {99, 100}, {100, 101}, {20, 1000}};
        for (int[] range : ranges) {
            due("way", x.way(0, 0, 1, range[0], range[1]), 0);
            due("step", x.step(0, 0, 1, range[0], range[1], 0), NONE);
            due("go", x.go(0, 0, 1, range[0], range[1]), 0);
        }
        due("who can pull nothing", x.way(0, 0, 2, 100, 100), 0);
        due("by 99", x.way(0, 0, 1, 20, 99), 1);
        due("never thicker", x.way(0, 0, 1, 101, 1000), NONE);
        due("never thicker", x.go(0, 0, 1, 101, 1000), NOT);
    }

    private static void noHoles() {
        says("each a DRAW through a HOLE of that PLATE; NONE: there is none");
        WireMill x = Mills.with(100, 10, 90);
        for (int i = 1; i < 4; i++) {
            due("plate " + i, x.way(0, i, 1, 90, 90), NONE);
            due("plate " + i, x.step(0, i, 1, 90, 90, 0), NONE);
            due("plate " + i, x.go(0, i, 1, 90, 90), NOT);
            due("there already, plate " + i, x.way(0, i, 1, 100, 100), 0);
        }
        for (int i = 0; i < 8; i++) x.hole(3, 97 - i);
        due("the last hole", x.step(0, 3, 1, 90, 90, 0), 7);
    }

    private static void brittleIsNoStep() {
        says("each DRAW such as MAY BE: h' is not above LIMIT");
        WireMill x = Mills.with(100, 10, 90);
        x.metal(0, 100, 100, 18, 0, 0);
        dueWay(x, 90, NONE);
        x.metal(0, 100, 100, 19, 0, 0);
        dueWay(x, 90, 1, 0);
        WireMill y = Mills.with(1000, 10, 815);
        y.metal(0, 100, 300, 99, 0, 0);
        dueWay(y, 815, NONE);
        y.metal(0, 100, 300, 100, 0, 0);
        dueWay(y, 815, 1, 0);
    }

    private static void tornIsNoStep() {
        says("each DRAW such as MAY BE: it does not ASK more than it BEARS");
        WireMill x = Mills.plain(24, 10, 20);
        x.set(1, 43);
        dueWay(x, 20, NONE);
        x.set(1, 44);
        dueWay(x, 20, 1, 0);
        x.coil(0, 24, 10, false);
        x.join(0, 1);
        dueWay(x, 20, NONE);
        x.set(1, 55);
        dueWay(x, 20, 1, 0);
        WireMill y = Mills.plain(23, 10, 20);
        y.set(1, 32);
        dueWay(y, 20, NONE);
        y.set(1, 33);
        dueWay(y, 20, 1, 0);
    }

    private static void weakIsNoStep() {
        says("and as the PULLER CAN");
        WireMill x = Mills.with(100, 10, 90);
        x.puller(1, 227999, 10);
        dueWay(x, 90, NONE);
        x.puller(1, 228000, 10);
        dueWay(x, 90, 1, 0);
        x.puller(0, 253334, 10);
        x.set(2, 8);
        due("the wheel with too little water", x.way(0, 0, 0, 90, 90), NONE);
        x.set(2, 9);
        due("the wheel with just enough", x.way(0, 0, 0, 90, 90), 1);
        x.puller(0, 253333, 10);
        due("the wheel with one too little", x.way(0, 0, 0, 90, 90), NONE);
    }

    private static void spentIsNoStep() {
        says("each DRAW such as MAY BE: the HOLE is not SPENT");
        WireMill x = Mills.worn(50999);
        x.coil(0, 200, 1, false);
        due("50 above", x.way(2, 0, 1, 149, 149), 1);
        WireMill y = Mills.worn(51000);
        y.coil(0, 200, 1, false);
        due("51 above", y.way(2, 0, 1, 150, 150), NONE);
        due("51 above", y.go(2, 0, 1, 150, 150), NOT);
        y.hole(0, 150);
        due("by another", y.step(2, 0, 1, 150, 150, 0), 1);
    }

    private static void asWideIsNoStep() {
        says("through a HOLE that is W WIDE (W less than S)");
        WireMill x = Mills.worn(1000);
        x.coil(0, 100, 1, false);
        x.coil(0, 101, 1, false);
        due("to 99, which the hole was", x.way(2, 0, 1, 99, 99), NONE);
        due("to 100, which the hole is", x.way(3, 0, 1, 100, 100), 1);
        due("not to 99", x.way(3, 0, 1, 99, 99), NONE);
    }

    private static void fireOnlyTheHard() {
        says("or FIRE (if HARDNESS is above 0)");
        WireMill x = Mills.with(100, 10, 90, 81);
        x.metal(0, 100, 100, 18, 0, 0);
        dueWay(x, 90, NONE);
        WireMill y = Mills.with(100, 10, 90, 81);
        y.draw(0, 0, 0, 1);
        y.metal(0, 100, 100, 18, 0, 0);
        due("soft it would be too hard as well", y.way(0, 0, 1, 81, 81), NONE);
        due("no fire was made", y.count(6), 0);
    }

    /** One hard is enough for a fire: with limit 1 a draw from 90 to 81, which hardens by one, needs it. */
    private static void fireFirst() {
        says("or FIRE (if HARDNESS is above 0)");
        WireMill x = Mills.with(100, 10, 90, 81);
        x.metal(0, 100, 10, 1, 0, 0);
        dueWay(x, 81, 102, 0, FIRE, 1);
        x.draw(0, 0, 0, 1);
        due("one hard", x.at(0, 2), 1);
        dueWay(x, 81, 101, FIRE, 1);
        x.fire(0);
        dueWay(x, 81, 1, 1);
    }

    /** With gain 10 a draw that makes less than a tenth thinner does not harden, one of 19 hundredths hardens by one. */
    private static void fewestFires() {
        says("BEST is that with the fewest FIRES");
        WireMill x = Mills.with(100, 10, 90, 81, 95, 91, 87, 83);
        x.metal(0, 100, 10, 1, 0, 0);
        dueWay(x, 81, 4, 0, 4, 5, 1);
        x.draw(0, 0, 0, 1);
        dueWay(x, 81, 3, 4, 5, 1);
    }

    private static void fewestDraws() {
        says("of several with the fewest DRAWS");
        WireMill x = Mills.with(100, 10, 95, 92, 90);
        dueWay(x, 90, 1, 2);
        due("the nearest that will do", x.step(0, 0, 1, 90, 95, 0), 0);
        x.puller(1, 160000, 10);
        dueWay(x, 90, 2, 0, 2);
        x.puller(1, 117000, 10);
        dueWay(x, 90, 3, 0, 1, 2);
        x.puller(1, 116999, 10);
        dueWay(x, 90, NONE);
        // who goes by 99 has to go by 90 as well
        WireMill y = Mills.plain(100, 10, 99, 90, 85);
        y.puller(1, 1900, 10);
        dueWay(y, 85, 2, 1, 2);
        y.puller(1, 1899, 10);
        dueWay(y, 85, 3, 0, 1, 2);
    }

    private static void lesserHoleAhead() {
        says("of several the first (step by step: lesser HOLES ahead");
        WireMill x = Mills.with(100, 10, 75, 90, 90, 90);
        due("of three alike", x.step(0, 0, 1, 90, 90, 0), 1);
        due("of all that lead there", x.step(0, 0, 1, 20, 99, 0), 0);
        // by 92 or by 95 alike
        WireMill y = Mills.with(100, 10, 90, 92, 95);
        y.puller(1, 190000, 10);
        dueWay(y, 90, 2, 1, 0);
        WireMill z = Mills.with(100, 10, 90, 95, 92);
        z.puller(1, 190000, 10);
        dueWay(z, 90, 2, 1, 0);
    }

    /** With limit 40 wire of 90 that is 19 hard needs a fire to come to 73, and can go by 81 ahead of it or behind it. */
    private static void fireBehindAll() {
        says("lesser HOLES ahead, FIRE behind all");
        WireMill x = Mills.with(100, 10, 90, 81, 73);
        x.metal(0, 100, 100, 40, 0, 0);
        x.draw(0, 0, 0, 1);
        dueWay(x, 73, 101, FIRE, 2);
        x.puller(1, 332519, 10);
        dueWay(x, 73, 102, 1, FIRE, 2);
        // the last hole is still ahead of a fire
        WireMill y = Mills.with(100, 10, 90, 73, 20, 20, 20, 20, 20, 81);
        y.metal(0, 100, 100, 40, 0, 0);
        y.draw(0, 0, 0, 1);
        y.puller(1, 332519, 10);
        dueWay(y, 73, 102, 7, FIRE, 1);
    }

    /** Each hole is a tenth finer and each draw as hard as may be: a fire ahead of each. */
    private static void longest() {
        says("BEST WAY: 100 times the FIRES, and the DRAWS");
        WireMill x = Mills.with(1000, 100, 387, 430, 478, 531, 590, 656, 729, 810);
        x.hole(1, 900);
        x.metal(0, 100, 100, 19, 10, 5);
        x.draw(0, 1, 0, 1);
        dueWay(x, 387, 808, FIRE, 7, FIRE, 6, FIRE, 5, FIRE, 4, FIRE, 3, FIRE, 2, FIRE, 1, FIRE, 0);
        due("go", x.go(0, 0, 1, 387, 387), 16);
        due("size", x.at(0, 1), 387);
        due("draws", x.count(5), 9);
        due("fires", x.count(6), 8);
    }

    /** With gain 300 each of these draws makes soft wire just 100 hard. */
    private static void hardest() {
        says("HARDNESS (0 .. 100)");
        WireMill x = Mills.with(1000, 100, 815, 665, 542);
        x.metal(0, 100, 300, 100, 0, 0);
        dueWay(x, 542, 203, 0, FIRE, 1, FIRE, 2);
        due("go", x.go(0, 0, 1, 542, 542), 5);
        due("hard", x.at(0, 2), 100);
        dueWay(x, 541, NONE);
        // and these just 99 hard
        WireMill y = Mills.with(1000, 100, 817, 668, 546);
        y.metal(0, 100, 300, 99, 0, 0);
        dueWay(y, 546, 203, 0, FIRE, 1, FIRE, 2);
        due("go", y.go(0, 0, 1, 546, 546), 5);
        due("hard", y.at(0, 2), 99);
    }

    private static void asItIsNow() {
        says("with all as it is now (WEAR, STUFF, MINUTES do not count)");
        WireMill x = Mills.with(100, 10, 90, 81, 73);
        x.metal(0, 100, 100, 40, 50, 50);
        x.draw(0, 0, 0, 1);
        x.part(0, 1);
        dueWay(x, 73, 101, FIRE, 2);
        due("the fire leaves no foot", x.go(0, 0, 1, 73, 73), 1);
        due("of another coil the way is still there", x.way(1, 0, 1, 73, 73), 101);
    }

    private static void nothingIsDone() {
        says("BEST WAY");
        WireMill x = Mills.with(100, 10, 90, 81, 73);
        dueWay(x, 73, 1, 2);
        due("size", x.at(0, 1), 100);
        due("draws", x.count(5), 0);
        due("wear", x.told(0, 2, 1), 0);
        for (int i = 0; i < 4; i++) due("ready", x.ready(i), 0);
    }

    // ---- promise 20

    private static void stepNumbers() {
        says("Step i (from 0) of BEST WAY; NONE: it has not so many; OUTSIDE: also i below 0");
        WireMill x = Mills.with(100, 10, 90, 81);
        x.metal(0, 100, 100, 20, 0, 0);
        int[] want = {0, FIRE, 1};
        for (int i = 0; i < 3; i++) due("step " + i, x.step(0, 0, 1, 81, 81, i), want[i]);
        for (int i : new int[] {3, 4, 16, 17, 100, Mills.MOST}) due("step " + i, x.step(0, 0, 1, 81, 81, i), NONE);
        for (int i : new int[] {-1, -2, Mills.LEAST}) due("step " + i, x.step(0, 0, 1, 81, 81, i), OUTSIDE);
    }

    private static void stepsOfNone() {
        says("NONE: .. or there is none");
        WireMill x = Mills.with(100, 10, 90);
        for (int i : new int[] {0, 1, 16, Mills.MOST}) due("step " + i, x.step(0, 0, 1, 91, 99, i), NONE);
        for (int i : new int[] {-1, Mills.LEAST}) due("step " + i, x.step(0, 0, 1, 91, 99, i), OUTSIDE);
        due("a way ahead of it leaves nothing", x.step(0, 0, 1, 90, 90, 0), 0);
        due("a way ahead of it leaves nothing", x.step(0, 0, 1, 91, 99, 0), NONE);
        due("there already", x.step(0, 0, 1, 100, 100, 0), NONE);
        due("there already", x.step(0, 0, 1, 100, 100, -1), OUTSIDE);
    }

    // ---- promise 21

    private static void goAll() {
        says("BEST WAY is gone, step by step, as long as each can be done then: how many were done");
        WireMill x = Mills.with(100, 10, 90, 81);
        x.metal(0, 100, 100, 20, 10, 5);
        due("draw, fire, draw", x.go(0, 0, 1, 81, 81), 3);
        int[] want = {0, 81, 19, 15, 0, 64, 0};
        for (int i = 0; i < 7; i++) due("at " + i, x.at(0, i), want[i]);
        due("draws", x.count(5), 2);
        due("fires", x.count(6), 1);
        due("scaled", x.account(4), 500);
        due("wear of the one", x.told(0, 0, 1), 1);
        due("wear of the other", x.told(0, 1, 1), 1);
        due("the puller", x.ready(1), 64);
        due("the furnace", x.ready(3), 62);
    }

    private static void goNowhere() {
        says("how many were done: none are needed");
        WireMill x = Mills.with(100, 10, 90);
        due("there already", x.go(0, 0, 1, 91, 100), 0);
        due("there already", x.go(0, 0, 2, 100, 100), 0);
        due("size", x.at(0, 1), 100);
        due("ready", x.ready(1), 0);
    }

    private static void goNone() {
        says("NOT: there is none");
        WireMill x = Mills.with(100, 10, 90);
        due("no such size", x.go(0, 0, 1, 91, 99), NOT);
        due("who can't pull", x.go(0, 0, 2, 90, 90), NOT);
        due("no hole", x.go(0, 1, 1, 90, 90), NOT);
        due("size", x.at(0, 1), 100);
        due("draws", x.count(5), 0);
    }

    private static void goUntilGone() {
        says("as long as each can be done then: a fire may leave no FEET");
        WireMill x = Mills.with(100, 10, 90, 81, 73);
        x.metal(0, 100, 100, 40, 0, 5);
        x.draw(0, 0, 0, 1);
        x.part(0, 1);
        due("the fire is done", x.go(0, 0, 1, 73, 73), 1);
        due("gone", x.at(0, 1), UNKNOWN);
        due("scaled", x.account(4), 40);
        due("scrap", x.account(3), 8060);
        due("fires", x.count(6), 1);
        due("draws", x.count(5), 1);
        due("gone", x.go(0, 0, 1, 73, 73), UNKNOWN);
        due("another goes on", x.go(1, 0, 1, 73, 73), 2);
    }

    /** A foot of 100 is a foot of 99, which the fire behind that draw makes less than one. */
    private static void goUntilGoneInTheMidst() {
        says("as long as each can be done then: how many were done");
        WireMill x = Mills.with(100, 1, 99, 85);
        x.metal(0, 100, 100, 26, 0, 50);
        dueWay(x, 85, 102, 0, FIRE, 1);
        due("draw and fire", x.go(0, 0, 1, 85, 85), 2);
        due("gone", x.at(0, 1), UNKNOWN);
        due("draws", x.count(5), 1);
        due("fires", x.count(6), 1);
        due("scaled", x.account(4), 500);
        due("scrap", x.account(3), 9500);
    }
}
