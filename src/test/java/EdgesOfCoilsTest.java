/** Promises 9 to 18 and the terms behind them: the edges of coils, draws, fires, parting and joining. */
public final class EdgesOfCoilsTest {
    private static final int UNKNOWN = -2, OUTSIDE = -3, NOT = -4, BRITTLE = -5, TORN = -6, WEAK = -7, FULL = -8;

    private static final Checks CHECKS = new Checks();

    public static void main(String[] args) {
        coilSize(); coilFeet(); newCoil(); sixteenCoils(); numbersOfTheGone();
        atWhat(); coilsThatAreNot(); coilsThatAreGone(); feetAreCut(); withoutFeet(); stuffAboveAnInt();
        asksWhat(); asksOnlyOfLessWide(); asksOfAWornHole(); thinner(); harder(); asked(); borne(); whetherOrNot();
        drawOnlyThroughLessWide(); brittle(); brittleByALowerLimit(); torn(); tornAtAJoint(); weak();
        drawn(); wearIsCut(); wearByFeetThenAndHardnessBefore(); drawBegins();
        fireOnlyTheHard(); scaled(); fireBegins(); firedKeeps();
        partAt(); partOfTheLeast(); partAlike(); partFull();
        joinItself(); joinUnlike(); joinLossAndOne(); joinGreaterAndLater(); joinBad(); joinRest();
        scrapped(); readyOf();
        CHECKS.end();
    }

    private static void says(String sentence) {
        CHECKS.says(sentence);
    }

    private static void due(String call, long got, long want) {
        CHECKS.due(call, got, want);
    }

    private static void dueAt(String when, WireMill x, int coil, int... want) {
        for (int i = 0; i < want.length; i++) due(when + ", at " + coil + " " + i, x.at(coil, i), want[i]);
    }

    // ---- promise 9

    private static void coilSize() {
        says("a SIZE (20 .. 1000)");
        WireMill x = new WireMill();
        due("20", x.coil(0, 20, 1, false), 0);
        due("1000", x.coil(0, 1000, 1, false), 1);
        for (int v : Mills.outside(20, 1000)) due("size " + v, x.coil(0, v, 1, false), OUTSIDE);
        due("none came by that", x.count(0), 2);
        due("nothing came in by that", x.account(0), 400 + 1000000);
        due("20", x.at(0, 1), 20);
        due("1000", x.at(1, 1), 1000);
    }

    private static void coilFeet() {
        says("feet (1 .. 1000)");
        WireMill x = new WireMill();
        due("1", x.coil(0, 30, 1, false), 0);
        due("1000", x.coil(0, 30, 1000, false), 1);
        for (int v : Mills.outside(1, 1000)) due("feet " + v, x.coil(0, 30, v, false), OUTSIDE);
        due("none came by that", x.count(0), 2);
        due("nothing came in by that", x.account(0), 900 + 900000);
        due("1", x.at(0, 3), 1);
        due("1000", x.at(1, 3), 1000);
    }

    private static void newCoil() {
        says("a COIL, soft, without JOINTS, READY at minute 0");
        WireMill x = Mills.with(100, 10, 90);
        x.draw(0, 0, 0, 1);
        x.fire(0);
        due("a good rod", x.coil(3, 50, 7, false), 1);
        dueAt("though all others are at work", x, 1, 3, 50, 0, 7, 0, 0, 0);
        due("a bad rod", x.coil(0, 60, 8, true), 2);
        dueAt("bad", x, 2, 0, 60, 0, 8, 0, 0, 1);
        due("stuff", x.stuff(2), 60 * 60 * 8);
        due("in", x.account(0), 100000 + 17500 + 28800);
    }

    private static void sixteenCoils() {
        says("COILS are numbered from 0, 16 at most");
        WireMill x = new WireMill();
        for (int i = 0; i < 16; i++) {
            due("there is no " + i + " yet", x.at(i, 3), UNKNOWN);
            due("number " + i, x.coil(0, 20 + i, 2, false), i);
        }
        due("a seventeenth", x.coil(0, 20, 2, false), FULL);
        due("no number 16", x.at(16, 3), UNKNOWN);
        due("ever", x.count(0), 16);
        for (int i = 0; i < 16; i++) due("all are there", x.at(i, 1), 20 + i);
    }

    private static void numbersOfTheGone() {
        says("COILS are numbered from 0, 16 at most; 0 COILS ever, 1 those not GONE");
        WireMill x = new WireMill();
        for (int i = 0; i < 15; i++) x.coil(0, 20, 2, false);
        for (int i = 0; i < 15; i++) x.scrap(i);
        due("none is there", x.count(1), 0);
        due("the number behind those that were", x.coil(0, 20, 2, false), 15);
        x.scrap(15);
        due("no number is given again", x.coil(0, 20, 2, false), FULL);
        due("ever", x.count(0), 16);
    }

    // ---- promises 10 and 11

    private static void atWhat() {
        says("Of a COIL: 0 METAL .. 6 whether it is BAD (1, 0). OUTSIDE");
        WireMill x = Mills.with(100, 10, 90);
        x.draw(0, 0, 0, 1);
        dueAt("drawn", x, 0, 0, 90, 19, 12, 0, 2, 0);
        for (int what : Mills.outside(0, 6)) due("at " + what, x.at(0, what), OUTSIDE);
    }

    private static void dueUnknown(String why, WireMill x, int coil, int other) {
        due(why + ", at", x.at(coil, 0), UNKNOWN);
        due(why + ", stuff", x.stuff(coil), UNKNOWN);
        due(why + ", asks", x.asks(coil, 0, 0, 0), UNKNOWN);
        due(why + ", draw", x.draw(coil, 0, 0, 1), UNKNOWN);
        due(why + ", fire", x.fire(coil), UNKNOWN);
        due(why + ", part", x.part(coil, 1), UNKNOWN);
        due(why + ", join the first", x.join(coil, other), UNKNOWN);
        due(why + ", join the second", x.join(other, coil), UNKNOWN);
        due(why + ", scrap", x.scrap(coil), UNKNOWN);
        due(why + ", way", x.way(coil, 0, 1, 20, 1000), UNKNOWN);
        due(why + ", step", x.step(coil, 0, 1, 20, 1000, 0), UNKNOWN);
        due(why + ", go", x.go(coil, 0, 1, 20, 1000), UNKNOWN);
    }

    private static void coilsThatAreNot() {
        says("UNKNOWN (no such .. COIL");
        WireMill x = Mills.with(100, 10, 90);
        for (int coil : new int[] {1, 15, 16, -1, Mills.LEAST, Mills.MOST}) dueUnknown("no coil " + coil, x, coil, 0);
        dueAt("what is there stays", x, 0, 0, 100, 0, 10, 0, 0, 0);
        dueUnknown("no coil at all", new WireMill(), 0, 0);
    }

    /** Coil 0 stays; the others go by a scrap, a join, a fire that leaves less than a foot, and a cutting. */
    private static void coilsThatAreGone() {
        says("UNKNOWN (no such .. COIL (also GONE)");
        WireMill x = Mills.with(100, 1000, 90);
        x.coil(0, 100, 10, false);
        x.coil(0, 100, 10, false);
        x.coil(0, 100, 2, false);
        x.coil(0, 77, 10, false);
        x.scrap(1);
        x.join(0, 2);
        x.draw(3, 0, 0, 1);
        x.part(3, 1);
        x.fire(3);
        x.order(0, 77, 77, 10);
        x.cut();
        String[] why = {"scrapped", "joined", "fired away", "cut"};
        for (int i = 1; i < 5; i++) dueUnknown(why[i - 1], x, i, 0);
        due("those not gone: the first and what was parted from the third", x.count(1), 2);
        due("ever", x.count(0), 6);
        dueAt("the first stays", x, 0, 0, 100, 0, 1008, 1, 0, 0);
    }

    /** A foot of 40 is four feet of 20; without one bit of it there are three. */
    private static WireMill fourFeetOf20(int scale) {
        WireMill x = Mills.plain(40, 1, 32, 25, 20);
        x.draw(0, 0, 0, 1);
        x.draw(0, 0, 1, 1);
        x.metal(0, 1, 100, 100, 0, scale);
        due("feet", x.draw(0, 0, 2, 1), 4);
        due("stuff", x.stuff(0), 1600);
        return x;
    }

    private static void feetAreCut() {
        says("FEET of a COIL: STUFF by SIZE times SIZE, cut");
        WireMill x = fourFeetOf20(1);
        due("just four", x.at(0, 3), 4);
        x.fire(0);
        due("one bit is lost", x.stuff(0), 1599);
        due("not four", x.at(0, 3), 3);
        due("no more than two can be kept", x.part(0, 3), OUTSIDE);
        due("two can", x.part(0, 2), 1);
        due("one foot and most of another", x.stuff(1), 799);
        due("which is one", x.at(1, 3), 1);
    }

    private static void withoutFeet() {
        says("a COIL without FEET is GONE (what STUFF it has then is SCRAP, and it has none)");
        WireMill x = fourFeetOf20(2);
        x.part(0, 1);
        x.part(1, 1);
        due("400 bits, of which no whole one is lost", x.fire(0), 66);
        due("it has a foot", x.at(0, 3), 1);
        due("and all its stuff", x.stuff(0), 400);
        x.metal(0, 1, 100, 100, 0, 3);
        due("one is lost: the minute all the same", x.fire(1), 126);
        due("it is gone", x.at(1, 3), UNKNOWN);
        due("it has no stuff", x.stuff(1), UNKNOWN);
        due("scaled", x.account(4), 1);
        due("scrap", x.account(3), 399);
        due("in coils", x.account(1), 1200);
        due("not gone", x.count(1), 2);
        due("fires", x.count(6), 2);
    }

    private static void stuffAboveAnInt() {
        says("STUFF (SIZE times SIZE times feet)");
        WireMill x = Mills.plain(1000, 1000);
        x.set(4, 0);
        for (int i = 1; i < 16; i++) {
            x.coil(0, 1000, 1000, false);
            due("feet", x.join(0, i), 1000 * (i + 1));
        }
        due("of the most coils", x.stuff(0), 16000000000L);
        due("joints", x.at(0, 4), 15);
        due("in coils", x.account(1), 16000000000L);
    }

    // ---- promise 12

    private static void asksWhat() {
        says("What a DRAW ASKS (what 0), BEARS (1), h' (2), THINNER (3). OUTSIDE");
        WireMill x = Mills.with(100, 10, 90);
        int[] want = {228000, 771120, 19, 190};
        for (int i = 0; i < 4; i++) due("what " + i, x.asks(0, 0, 0, i), want[i]);
        for (int what : Mills.outside(0, 3)) due("what " + what, x.asks(0, 0, 0, what), OUTSIDE);
    }

    private static void asksOnlyOfLessWide() {
        says("NOT: the HOLE is not less WIDE than SIZE");
        WireMill x = Mills.plain(100, 10, 99, 100, 101, 1000);
        due("99 from 100", x.asks(0, 0, 0, 0), 199);
        for (int i = 1; i < 4; i++) due("as wide or wider " + i, x.asks(0, 0, i, 0), NOT);
        x.coil(0, 20, 1, false);
        x.hole(1, 20);
        due("20 from 20", x.asks(1, 1, 0, 0), NOT);
        x.coil(0, 1000, 1, false);
        due("1000 from 1000", x.asks(2, 0, 3, 0), NOT);
    }

    private static void asksOfAWornHole() {
        says("a HOLE that is W WIDE (W less than S)");
        WireMill x = Mills.worn(1000);
        x.coil(0, 100, 1, false);
        x.coil(0, 101, 1, false);
        due("100 wide, though 99 at first: none of 100", x.asks(2, 0, 0, 0), NOT);
        due("none of 100", x.draw(2, 0, 0, 1), NOT);
        due("of 101", x.asks(3, 0, 0, 0), 10201 - 10000);
        due("of 101 it bears", x.asks(3, 0, 0, 1), 10000);
    }

    private static void thinner() {
        says("THINNER is 1000 less (1000 W W by S S, cut)");
        // 998.001, 810 and 0.961 and 1.024 of a thousand stay
        WireMill x = Mills.plain(1000, 1, 999, 900, 31, 32, 20);
        int[] want = {2, 190, 1000, 999, 1000};
        for (int i = 0; i < 5; i++) due("hole " + i, x.asks(0, 0, i, 3), want[i]);
    }

    private static void harder() {
        says("h' is h and GAIN THINNER by 1000, cut");
        WireMill x = Mills.plain(1000, 1, 31, 32, 900, 810);
        x.metal(0, 1, 1, 100, 0, 0);
        due("1 and 1000", x.asks(0, 0, 0, 2), 1);
        due("1 and 999", x.asks(0, 0, 1, 2), 0);
        x.metal(0, 1, 300, 100, 0, 0);
        due("300 and 1000", x.asks(0, 0, 0, 2), 300);
        due("300 and 999: 299.7", x.asks(0, 0, 1, 2), 299);
        x.draw(0, 0, 2, 1);
        due("57 hard", x.at(0, 2), 57);
        due("57 more", x.asks(0, 0, 3, 2), 114);
    }

    /** Wire of 90 that is 1 hard: strength 101, so that all cuts count. */
    private static WireMill oneHard(int feet) {
        WireMill x = Mills.plain(100, feet, 90, 89, 64);
        x.metal(0, 1, 10, 100, 0, 0);
        x.draw(0, 0, 0, 1);
        due("one hard", x.at(0, 2), 1);
        x.metal(0, 1, 0, 100, 0, 0);
        return x;
    }

    private static void asked() {
        says("It ASKS (S S - W W) STRENGTH with h, by 100, cut, and FRICTION hundredths of that, cut, more");
        WireMill x = oneHard(10);
        due("179 and 101: 180.79", x.asks(0, 0, 1, 0), 180);
        x.set(0, 99);
        due("178.2 more", x.asks(0, 0, 1, 0), 358);
        x.set(0, 100);
        due("as much more", x.asks(0, 0, 1, 0), 360);
        x.metal(0, 1, 300, 100, 0, 0);
        due("with h, not h'", x.asks(0, 0, 1, 0), 360);
        WireMill y = Mills.plain(1000, 1, 20);
        y.metal(0, 200, 300, 100, 0, 0);
        y.set(0, 100);
        due("the most of soft wire", y.asks(0, 0, 0, 0), 999600 * 400);
    }

    private static void borne() {
        says("It BEARS W W STRENGTH with h', by 100, cut; of this, with JOINTS, 8 tenths, cut; of this SAFE hundredths, cut");
        WireMill x = oneHard(10);
        due("4096 and 101: 4136.96", x.asks(0, 0, 2, 1), 4136);
        x.set(1, 74);
        due("3060.64 of it", x.asks(0, 0, 2, 1), 3060);
        x.coil(0, 90, 10, false);
        x.join(0, 1);
        due("with a joint 3308.8, of it 2447.92", x.asks(0, 0, 2, 1), 2447);
        x.coil(0, 90, 10, false);
        x.join(0, 2);
        due("with two joints as with one", x.asks(0, 0, 2, 1), 2447);
        WireMill y = Mills.plain(1000, 1, 999, 600);
        y.metal(0, 200, 300, 100, 0, 0);
        due("no h' from 2 thinner: 199600200 by 1", y.asks(0, 0, 0, 1), 998001 * 200);
        due("with h' 192", y.asks(0, 0, 1, 1), 360000 * 2 * 292);
    }

    private static void whetherOrNot() {
        says("whether or not it MAY BE");
        WireMill x = Mills.with(100, 10, 30);
        due("brittle, torn and weak", x.draw(0, 0, 0, 0), BRITTLE);
        int[] want = {9100 * 120, 900 * 191 * 8 / 10, 91, 910};
        for (int i = 0; i < 4; i++) due("what " + i, x.asks(0, 0, 0, i), want[i]);
        WireMill y = Mills.worn(51000);
        y.coil(0, 200, 1, false);
        int[] spent = {17500, 22500, 0, 438};
        for (int i = 0; i < 4; i++) due("spent, what " + i, y.asks(2, 0, 0, i), spent[i]);
    }

    // ---- promise 13

    private static void drawOnlyThroughLessWide() {
        says("NOT: the HOLE is SPENT, or not less WIDE than SIZE");
        WireMill x = Mills.plain(100, 10, 99, 100, 101, 1000);
        for (int i = 1; i < 4; i++) due("as wide or wider " + i, x.draw(0, 0, i, 1), NOT);
        due("99 from 100", x.draw(0, 0, 0, 1), 10);
        due("99 from 99", x.draw(0, 0, 0, 1), NOT);
        x.coil(0, 21, 1, false);
        x.hole(1, 20);
        due("20 from 21", x.draw(1, 1, 0, 1), 1);
        due("20 from 20", x.draw(1, 1, 0, 1), NOT);
        x.coil(0, 1000, 1, false);
        x.hole(1, 999);
        due("1000 from 1000", x.draw(2, 0, 3, 1), NOT);
        due("999 from 1000", x.draw(2, 1, 1, 1), 1);
    }

    private static void brittle() {
        says("h' is not above LIMIT; BRITTLE (h' above LIMIT)");
        WireMill x = Mills.with(100, 10, 90, 81);
        x.metal(0, 100, 100, 18, 0, 0);
        due("19 with 18", x.draw(0, 0, 0, 1), BRITTLE);
        x.metal(0, 100, 100, 19, 0, 0);
        due("19 with 19", x.draw(0, 0, 0, 1), 12);
        x.metal(0, 100, 100, 37, 0, 0);
        due("19 and 19 with 37", x.draw(0, 0, 1, 1), BRITTLE);
        x.metal(0, 100, 100, 38, 0, 0);
        due("19 and 19 with 38", x.draw(0, 0, 1, 1), 15);
    }

    private static void brittleByALowerLimit() {
        says("BRITTLE (h' above LIMIT)");
        WireMill x = Mills.with(100, 10, 90, 81);
        x.draw(0, 0, 0, 1);
        x.metal(0, 100, 0, 18, 0, 0);
        due("hard ahead of it", x.draw(0, 0, 1, 1), BRITTLE);
        x.metal(0, 100, 0, 19, 0, 0);
        due("not above", x.draw(0, 0, 1, 1), 15);
    }

    private static void torn() {
        says("it does not ASK more than it BEARS; TORN (it ASKS more than it BEARS)");
        WireMill x = Mills.plain(24, 10, 20);
        x.coil(0, 23, 10, false);
        x.set(1, 44);
        due("asks", x.asks(0, 0, 0, 0), 176);
        due("bears", x.asks(0, 0, 0, 1), 176);
        due("as much", x.draw(0, 0, 0, 1), 14);
        x.set(1, 32);
        due("asks", x.asks(1, 0, 0, 0), 129);
        due("bears", x.asks(1, 0, 0, 1), 128);
        due("one more", x.draw(1, 0, 0, 1), TORN);
        x.set(1, 33);
        due("less", x.draw(1, 0, 0, 1), 13);
    }

    private static void tornAtAJoint() {
        says("of this, with JOINTS, 8 tenths, cut");
        WireMill x = Mills.plain(24, 10, 20);
        for (int size : new int[] {24, 23, 23}) x.coil(0, size, 10, false);
        x.join(0, 1);
        x.join(2, 3);
        x.set(1, 54);
        due("176 and 172", x.draw(0, 0, 0, 1), TORN);
        x.set(1, 55);
        due("176 and 176", x.draw(0, 0, 0, 1), 25);
        x.set(1, 40);
        due("129 and 128", x.draw(2, 0, 0, 1), TORN);
        x.set(1, 41);
        due("129 and 131", x.draw(2, 0, 0, 1), 23);
    }

    private static void weak() {
        says("A PULLER CAN a DRAW, if it does not ASK more than that PULL; WEAK (the PULLER cannot)");
        WireMill x = Mills.with(100, 10, 90);
        x.puller(2, 227999, 10);
        due("one too little", x.draw(0, 0, 0, 2), WEAK);
        x.puller(2, 228000, 10);
        due("just enough", x.draw(0, 0, 0, 2), 12);
    }

    private static void drawn() {
        says("Then the COIL is W of SIZE, h' hard; its STUFF stays");
        WireMill x = Mills.with(100, 10, 90);
        due("feet then", x.draw(0, 0, 0, 1), 12);
        dueAt("drawn", x, 0, 0, 90, 19, 12, 0, 2, 0);
        due("stuff", x.stuff(0), 100000);
        due("draws", x.count(5), 1);
    }

    private static void wearIsCut() {
        says("WEAR of the HOLE grows by .., by 10000, cut");
        // nine feet, 11 and 101 are 9999
        WireMill x = oneHard(10);
        x.part(0, 9);
        x.metal(0, 1, 0, 100, 11, 0);
        due("nine feet", x.draw(0, 0, 1, 1), 9);
        due("no wear", x.told(0, 1, 1), 0);
        WireMill y = Mills.plain(100, 10, 99);
        y.metal(0, 1, 0, 100, 10, 0);
        due("ten feet, 10 and 100 are 10000", y.draw(0, 0, 0, 1), 10);
        due("wear", y.told(0, 0, 1), 1);
        due("only of that hole", x.told(0, 0, 1), 0);
    }

    private static void wearByFeetThenAndHardnessBefore() {
        says("by FEET (then) times ABRADE times (100 + h)");
        WireMill x = Mills.with(100, 9, 90, 90);
        due("eleven feet of nine", x.draw(0, 0, 0, 1), 11);
        due("11000", x.told(0, 0, 1), 1);
        x.coil(0, 100, 8, false);
        due("nine feet of eight", x.draw(1, 0, 1, 1), 9);
        due("9000, not 10710 with h' 19", x.told(0, 1, 1), 0);
        WireMill y = Mills.with(100, 810, 90, 81);
        y.draw(0, 0, 0, 1);
        due("feet of 81", y.draw(0, 0, 1, 1), 1234);
        due("1234, 10 and 119: 146.846", y.told(0, 1, 1), 146);
    }

    private static void drawBegins() {
        says("It begins when both are READY (PULLERS at minute 0 at first); then both are READY");
        WireMill x = Mills.plain(100, 10, 99, 98, 97);
        x.coil(0, 100, 10, false);
        x.puller(2, Mills.PULL, 10);
        x.draw(0, 0, 0, 2);
        due("a minute and one", x.at(0, 5), 2);
        x.draw(1, 0, 0, 2);
        due("the coil waits for the puller", x.at(1, 5), 4);
        due("the puller", x.ready(2), 4);
        x.draw(1, 0, 1, 1);
        due("the puller waits for the coil", x.ready(1), 6);
        due("the coil", x.at(1, 5), 6);
        due("the first is free since", x.ready(2), 4);
        x.draw(0, 0, 1, 2);
        due("behind minute 4", x.at(0, 5), 6);
        x.draw(0, 0, 2, 1);
        due("both at once", x.at(0, 5), 8);
        due("the wheel did nothing", x.ready(0), 0);
    }

    // ---- promise 14

    private static void fireOnlyTheHard() {
        says("NOT: its HARDNESS is 0");
        WireMill x = oneHard(10);
        x.coil(0, 100, 10, false);
        due("one hard", x.fire(0), 62);
        due("soft then", x.at(0, 2), 0);
        due("not again", x.fire(0), NOT);
        due("a new one", x.fire(1), NOT);
        due("it is drawn without getting hard", x.draw(1, 0, 0, 1), 12);
        due("soft still", x.fire(1), NOT);
        due("fires", x.count(6), 1);
        due("the furnace", x.ready(3), 62);
    }

    private static void scaled() {
        says("loses SCALE thousandths of its STUFF, cut: they are SCALED");
        // 17 feet of 39 and 7 thousandths: 180.999
        WireMill x = Mills.with(43, 20, 39);
        x.metal(0, 1, 100, 100, 0, 7);
        x.draw(0, 0, 0, 1);
        x.part(0, 17);
        x.fire(0);
        due("stuff", x.stuff(0), 25857 - 180);
        due("scaled", x.account(4), 180);
        // 5 feet of 20 and 1 thousandth: just 2
        WireMill y = Mills.with(22, 10, 20);
        y.metal(0, 1, 100, 100, 0, 1);
        y.draw(0, 0, 0, 1);
        y.part(0, 5);
        y.fire(0);
        due("stuff", y.stuff(0), 2000 - 2);
        due("scaled", y.account(4), 2);
        due("no scrap", y.account(3), 0);
    }

    private static void fireBegins() {
        says("FIRE is one at a time, begins likewise");
        WireMill x = Mills.with(100, 10, 90, 81);
        x.coil(0, 100, 10, false);
        x.draw(0, 0, 0, 1);
        x.draw(1, 0, 0, 1);
        due("behind its minute 2", x.fire(0), 62);
        due("behind the fire, though ready at 4", x.fire(1), 122);
        x.draw(0, 0, 1, 1);
        due("drawn again at once", x.at(0, 5), 64);
        due("behind the fire", x.fire(0), 182);
        x.draw(1, 0, 1, 1);
        x.puller(1, Mills.PULL, 10);
        due("ready of the furnace", x.ready(3), 182);
        x.hole(0, 73);
        x.draw(0, 0, 2, 1);
        due("18 feet by 10 and one", x.at(0, 5), 185);
        due("the furnace waits for the coil", x.fire(0), 245);
        due("pullers do not", x.ready(1), 185);
    }

    private static void firedKeeps() {
        says("FIRED a COIL has HARDNESS 0 and loses SCALE thousandths");
        WireMill x = Mills.with(100, 10, 90);
        x.coil(0, 100, 10, true);
        x.join(0, 1);
        x.draw(0, 0, 0, 1);
        dueAt("ahead", x, 0, 0, 90, 19, 22, 1, 2, 1);
        x.fire(0);
        dueAt("all else stays", x, 0, 0, 90, 0, 22, 1, 62, 1);
    }

    // ---- promise 15

    private static void partAt() {
        says("OUTSIDE: f not 1 .. FEET less 1");
        WireMill x = Mills.with(100, 10);
        for (int f : Mills.outside(1, 9)) due("at " + f, x.part(0, f), OUTSIDE);
        due("none came by that", x.count(0), 1);
        due("at 9", x.part(0, 9), 1);
        due("keeps", x.at(0, 3), 9);
        due("the new one", x.at(1, 3), 1);
        due("at 1", x.part(0, 1), 2);
        due("keeps", x.at(0, 3), 1);
        due("the new one", x.at(2, 3), 8);
    }

    private static void partOfTheLeast() {
        says("OUTSIDE: f not 1 .. FEET less 1");
        WireMill x = Mills.with(100, 2);
        due("two feet at 2", x.part(0, 2), OUTSIDE);
        due("two feet at 1", x.part(0, 1), 1);
        for (int f = -1; f < 3; f++) due("one foot at " + f, x.part(0, f), OUTSIDE);
        due("one foot at 1", x.part(1, 1), OUTSIDE);
    }

    private static void partAlike() {
        says("a COIL keeps f FEET, all other STUFF of it comes in a new one (alike in all, JOINTS too)");
        WireMill x = Mills.with(100, 10, 90);
        x.coil(0, 100, 7, true);
        x.join(0, 1);
        x.draw(0, 0, 0, 1);
        due("150000 by 8100", x.at(0, 3), 18);
        due("at 17", x.part(0, 17), 2);
        dueAt("the old", x, 0, 0, 90, 19, 17, 1, 2, 1);
        dueAt("the new", x, 2, 0, 90, 19, 1, 1, 2, 1);
        due("just 17 feet", x.stuff(0), 17 * 8100);
        due("all other", x.stuff(2), 150000 - 17 * 8100);
        x.fire(2);
        dueAt("the old is another coil", x, 0, 0, 90, 19, 17, 1, 2, 1);
    }

    private static void partFull() {
        says("FULL");
        WireMill x = Mills.with(100, 100);
        for (int i = 1; i < 16; i++) due("number " + i, x.part(0, 100 - i), i);
        due("a seventeenth", x.part(0, 1), FULL);
        due("it keeps all", x.at(0, 3), 85);
        x.scrap(3);
        due("no number is given again", x.part(0, 1), FULL);
    }

    // ---- promise 16

    private static void joinItself() {
        says("OUTSIDE: one and itself");
        WireMill x = Mills.with(100, 10);
        due("itself", x.join(0, 0), OUTSIDE);
        dueAt("it stays", x, 0, 0, 100, 0, 10, 0, 0, 0);
        x.coil(0, 100, 10, false);
        due("another just like it", x.join(0, 1), 18);
    }

    private static void joinUnlike() {
        says("NOT: not alike in METAL and SIZE");
        WireMill x = Mills.with(100, 10);
        x.coil(1, 100, 10, false);
        x.coil(0, 101, 10, false);
        x.coil(0, 99, 10, false);
        for (int i = 1; i < 4; i++) {
            due("with " + i, x.join(0, i), NOT);
            due(i + " with it", x.join(i, 0), NOT);
        }
        due("all are there", x.account(1), x.account(0));
        due("all are there", x.count(1), 4);
    }

    private static void joinLossAndOne() {
        says("NOT: .. the second has less than LOSS and one FEET");
        WireMill x = Mills.with(100, 1);
        for (int feet : new int[] {2, 3, 2, 1}) x.coil(0, 100, feet, false);
        due("two feet", x.join(0, 1), NOT);
        due("three feet to one", x.join(0, 2), 2);
        x.set(4, 1);
        due("one foot", x.join(0, 4), NOT);
        due("two feet", x.join(0, 1), 3);
        x.set(4, 0);
        due("one foot", x.join(0, 4), 4);
        due("scrap", x.account(3), 30000);
        x.set(4, 4);
        due("five feet are needed", x.join(3, 0), NOT);
        x.set(4, 3);
        due("four are enough", x.join(3, 0), 3);
    }

    /** The first of two is harder and later, then the second. */
    private static void joinGreaterAndLater() {
        says("HARDNESS becomes the greater one, JOINTS all and one more, READY the later one");
        for (int turn = 0; turn < 2; turn++) {
            WireMill x = Mills.with(100, 10, 90);
            x.coil(0, 90, 10, false);
            x.coil(0, 90, 10, false);
            x.join(1, 2);
            x.draw(0, 0, 0, 1);
            int one = turn, two = 1 - turn;
            due("12 and 18, less 2", x.join(one, two), 28);
            dueAt("turn " + turn, x, one, 0, 90, 19, 28, 2, 2, 0);
            due("gone", x.at(two, 0), UNKNOWN);
        }
    }

    private static void joinBad() {
        says("it is BAD, if one was; the second is GONE");
        for (int i = 0; i < 4; i++) {
            WireMill x = new WireMill();
            x.coil(0, 100, 10, (i & 1) != 0);
            x.coil(0, 100, 10, (i & 2) != 0);
            due("feet", x.join(0, 1), 18);
            due("bad by " + i, x.at(0, 6), i == 0 ? 0 : 1);
            due("gone", x.stuff(1), UNKNOWN);
            due("not gone", x.count(1), 1);
        }
    }

    private static void joinRest() {
        says("the second one's STUFF comes to the first, less that of LOSS feet, which is SCRAP");
        WireMill x = Mills.with(100, 10, 90);
        x.coil(0, 100, 10, false);
        x.draw(0, 0, 0, 1);
        x.draw(1, 0, 0, 1);
        due("what is no whole foot comes too: 183800 by 8100", x.join(0, 1), 22);
        due("stuff", x.stuff(0), 200000 - 16200);
        due("scrap", x.account(3), 16200);
        due("in coils", x.account(1), 200000 - 16200);
    }

    // ---- promises 17 and 18

    private static void scrapped() {
        says("A COIL becomes SCRAP: 1. UNKNOWN");
        WireMill x = Mills.with(20, 1);
        due("the least", x.scrap(0), 1);
        due("scrap", x.account(3), 400);
        due("not twice", x.scrap(0), UNKNOWN);
        due("scrap", x.account(3), 400);
        due("in coils", x.account(1), 0);
        due("not gone", x.count(1), 0);
        due("ever", x.count(0), 1);
    }

    private static void readyOf() {
        says("READY of a PULLER (0 .. 2), of FIRE (3). UNKNOWN");
        WireMill x = Mills.with(100, 10, 90, 81, 73);
        x.puller(0, Mills.PULL, 12);
        x.puller(2, Mills.PULL, 10);
        x.draw(0, 0, 0, 0);
        x.draw(0, 0, 1, 1);
        x.draw(0, 0, 2, 2);
        x.fire(0);
        int[] want = {2, 4, 7, 67};
        for (int i = 0; i < 4; i++) due("ready " + i, x.ready(i), want[i]);
        for (int which : Mills.outside(0, 3)) due("ready " + which, x.ready(which), UNKNOWN);
    }
}
