import java.util.HashMap;
import java.util.Map;

/**
 * "Refused, and nothing changes: UNKNOWN, OUTSIDE, NOT, BRITTLE, TORN, WEAK, FULL: the first of these that fits."
 * Each refused call is made on a mill that is at work, which then has to answer all that is asked of it as its twin
 * does, to which that call was not made.
 */
public final class RefusalsTest {
    private static final int UNKNOWN = -2, OUTSIDE = -3, NOT = -4, BRITTLE = -5, TORN = -6, WEAK = -7, FULL = -8;
    private static final int BUSY = 0, CROWDED = 1, SPENT = 2;
    private static final int GONE = 1, ABSENT = 10;

    private static final Checks CHECKS = new Checks();
    private static final Map<Integer, String> TWINS = new HashMap<>();

    private interface Call {
        long on(WireMill x);
    }

    public static void main(String[] args) {
        metals(); settings(); pullers(); holes(); told(); gauged(); reamed();
        coils(); coilsAt(); asks(); drawsOfNothing(); draws(); drawsThroughSpent(); fires(); parts(); joins(); scraps();
        ways(); waysOutside(); orders(); notes(); causes(); accounts();
        CHECKS.end();
    }

    // ---- mills at work

    /**
     * In plate 0 hole 1 is as wide as coil 0, hole 2 makes it brittle, hole 3 tears it, hole 5 was reamed twice; plate 1
     * is full, plate 2 is empty. Coil 1 was scrapped, coil 2 has one foot, coils 3 and 4 are unlike coil 0 in metal and
     * in size, coil 5 is hard, coil 6 was joined to coil 7, coil 8 was fired, coil 9 cut. Puller 2 can nothing.
     */
    private static WireMill busy() {
        WireMill x = new WireMill();
        x.metal(1, 50, 200, 80, 20, 20);
        int[] settings = {10, 90, 9, 50, 3, 6};
        for (int i = 0; i < 6; i++) x.set(i, settings[i]);
        x.puller(0, 50000000, 100);
        x.puller(1, Mills.PULL, 50);
        x.puller(2, 1000, 20);
        for (int nominal : new int[] {90, 100, 60, 65, 80, 70, 990}) x.hole(0, nominal);
        for (int i = 0; i < 8; i++) x.hole(1, 95 - i);
        x.hole(3, 85);
        for (int i = 0; i < 2; i++) x.ream(0, 5, 5);
        int[] metal = {0, 0, 0, 1, 0, 0, 0, 0, 2, 3}, feet = {50, 10, 1, 40, 30, 300, 20, 20, 20, 20};
        for (int i = 0; i < 10; i++) x.coil(metal[i], i == 4 ? 101 : 100, feet[i], i == 2);
        x.scrap(1);
        x.draw(5, 0, 0, 1);
        x.join(7, 6);
        x.draw(8, 3, 0, 0);
        x.fire(8);
        x.order(3, 100, 100, 5);
        x.cut();
        x.order(0, 100, 100, 25);
        x.order(1, 100, 100, 10);
        x.order(0, 90, 90, 10);
        for (int i = 0; i < 10; i++) x.note(i % 8, i % 3 == 0);
        return x;
    }

    /** No coil, order or note may come any more. */
    private static WireMill crowded() {
        WireMill x = busy();
        for (int i = 10; i < 16; i++) x.coil(0, 100, 7, false);
        for (int i = 4; i < 6; i++) x.order(0, 100, 100, 7);
        for (int i = 10; i < 60; i++) x.note(i % 8, i % 3 == 0);
        return x;
    }

    /** Hole 0 of plate 0 is spent and 150 wide, coil 2 is 200 thick; a draw would ask 17500 and bear 22500. */
    private static WireMill spent() {
        WireMill x = Mills.worn(51000);
        x.coil(0, 200, 5, false);
        return x;
    }

    private static WireMill start(int kind) {
        return kind == BUSY ? busy() : kind == CROWDED ? crowded() : spent();
    }

    // ---- what can be seen of them

    private static void tell(StringBuilder all, long... answers) {
        for (long answer : answers) all.append(answer).append(' ');
    }

    private static void look(WireMill x, StringBuilder all) {
        for (int i = 0; i < 7; i++) tell(all, x.count(i));
        for (int i = 0; i < 5; i++) tell(all, x.account(i));
        for (int i = 0; i < 4; i++) tell(all, x.ready(i));
        for (int i = 0; i < 16; i++) {
            for (int k = 0; k < 7; k++) tell(all, x.at(i, k));
            tell(all, x.stuff(i));
        }
        for (int p : new int[] {0, 1, 3}) {
            for (int i = 0; i < 8; i++) {
                for (int k = 0; k < 4; k++) tell(all, x.told(p, i, k));
            }
        }
        tell(all, x.cutting());
        for (int i = 0; i < 6; i++) tell(all, x.filled(i), x.from(i));
        for (int i = 0; i < 12; i++) tell(all, x.tally(i / 4, i % 4));
        for (int i = 0; i < 3; i++) tell(all, x.by(i, 0), x.by(i, 1), x.chance(i));
        tell(all, x.cause());
    }

    /** What does not show but by a call that changes something: metals, pullers and settings by draws and fires. */
    private static void work(WireMill x, StringBuilder all) {
        int[] rods = {0, 3, 8, 9};
        for (int i = 0; i < 4; i++) {
            int rod = rods[i];
            for (int k = 0; k < 4; k++) tell(all, x.asks(rod, 1, 7, k));
            tell(all, x.draw(rod, 1, 7, i % 2), x.told(1, 7, 1), x.ready(i % 2), x.at(rod, 2));
            tell(all, x.fire(rod), x.stuff(rod));
        }
        tell(all, x.asks(2, 0, 0, 0), x.draw(2, 0, 0, 2), x.ready(2), x.cut());
        for (int i = 0; i < 4; i++) tell(all, x.hole(i, 500));
        tell(all, x.part(0, 3), x.coil(0, 20, 1, false), x.order(0, 20, 20, 1), x.note(0, true));
        for (int i = 0; i < 6; i++) tell(all, x.set(i, 10));
        for (int i = 0; i < 7; i++) tell(all, x.count(i), x.account(i));
    }

    private static String seen(WireMill x) {
        StringBuilder all = new StringBuilder();
        look(x, all);
        work(x, all);
        return all.toString();
    }

    private static void refused(String why, int kind, long want, Call call) {
        CHECKS.says(why);
        WireMill x = start(kind);
        CHECKS.due("the call", call.on(x), want);
        String twin = TWINS.computeIfAbsent(kind, k -> seen(start(k)));
        CHECKS.holds("nothing changes", seen(x).equals(twin));
    }

    private static void refused(String why, long want, Call call) {
        refused(why, BUSY, want, call);
    }

    // ---- metals, tools

    private static void metals() {
        for (int m : Mills.outside(0, 3)) {
            refused("no such metal", UNKNOWN, x -> x.metal(m, 200, 300, 1, 50, 50));
            refused("no such metal, ahead of outside", UNKNOWN, x -> x.metal(m, 0, 301, 0, 51, 51));
        }
        int[] low = {1, 0, 1, 0, 0}, high = {200, 300, 100, 50, 50};
        for (int i = 0; i < 5; i++) {
            for (int v : Mills.outside(low[i], high[i])) {
                int[] a = {200, 300, 1, 50, 50};
                a[i] = v;
                for (int m = 0; m < 4; m++) {
                    int metal = m;
                    refused("number " + i + " of a metal", OUTSIDE, x -> x.metal(metal, a[0], a[1], a[2], a[3], a[4]));
                }
            }
        }
    }

    private static void settings() {
        int[] low = {0, 10, 0, 1, 0, 1}, high = {100, 100, 10, 500, 20, 100};
        for (int i = 0; i < 6; i++) {
            int what = i;
            for (int v : Mills.outside(low[i], high[i])) refused("setting " + i, OUTSIDE, x -> x.set(what, v));
        }
        for (int what : Mills.outside(0, 5)) {
            refused("no such setting", OUTSIDE, x -> x.set(what, 10));
            refused("no such setting, and outside", OUTSIDE, x -> x.set(what, -1));
        }
    }

    private static void pullers() {
        for (int p : Mills.outside(0, 2)) {
            refused("no such puller", UNKNOWN, x -> x.puller(p, 0, 1000));
            refused("no such puller, ahead of outside", UNKNOWN, x -> x.puller(p, -1, 9));
        }
        for (int p = 0; p < 3; p++) {
            int puller = p;
            for (int v : Mills.outside(0, Mills.PULL)) refused("pull", OUTSIDE, x -> x.puller(puller, v, 1000));
            for (int v : Mills.outside(10, 1000)) refused("speed", OUTSIDE, x -> x.puller(puller, 0, v));
            for (int v : Mills.outside(10, 1000)) refused("speed", OUTSIDE, x -> x.puller(puller, Mills.PULL, v));
        }
    }

    private static void holes() {
        for (int p : Mills.outside(0, 3)) {
            refused("no such plate", UNKNOWN, x -> x.hole(p, 100));
            refused("no such plate, ahead of outside", UNKNOWN, x -> x.hole(p, 19));
        }
        for (int v : Mills.outside(20, 1000)) {
            refused("nominal", OUTSIDE, x -> x.hole(0, v));
            refused("nominal, ahead of full", OUTSIDE, x -> x.hole(1, v));
        }
        refused("a full plate", FULL, x -> x.hole(1, 20));
        refused("a full plate", FULL, x -> x.hole(1, 1000));
    }

    private static void told() {
        for (int p : Mills.outside(0, 3)) {
            refused("no such plate", UNKNOWN, x -> x.told(p, 0, 0));
            refused("no such plate, ahead of outside", UNKNOWN, x -> x.told(p, 0, 5));
        }
        for (int h : Mills.outside(0, 6)) {
            refused("no such hole", UNKNOWN, x -> x.told(0, h, 0));
            refused("no such hole, ahead of outside", UNKNOWN, x -> x.told(0, h, -1));
        }
        refused("an empty plate", UNKNOWN, x -> x.told(2, 0, 0));
        refused("behind the last hole of a full plate", UNKNOWN, x -> x.told(1, 8, 0));
        for (int what : Mills.outside(0, 4)) refused("what", OUTSIDE, x -> x.told(0, 0, what));
    }

    private static void gauged() {
        for (int p : Mills.outside(0, 3)) refused("no such plate", UNKNOWN, x -> x.gauge(p, 0));
        for (int h : Mills.outside(0, 6)) refused("no such hole", UNKNOWN, x -> x.gauge(0, h));
        refused("an empty plate", UNKNOWN, x -> x.gauge(2, 0));
    }

    private static void reamed() {
        for (int p : Mills.outside(0, 3)) {
            refused("no such plate", UNKNOWN, x -> x.ream(p, 0, 1));
            refused("no such plate, ahead of outside", UNKNOWN, x -> x.ream(p, 0, 0));
        }
        for (int h : Mills.outside(0, 6)) {
            refused("no such hole", UNKNOWN, x -> x.ream(0, h, 1));
            refused("no such hole, ahead of outside", UNKNOWN, x -> x.ream(0, h, 51));
        }
        for (int by : Mills.outside(1, 50)) {
            refused("by", OUTSIDE, x -> x.ream(0, 0, by));
            refused("by, ahead of a third time", OUTSIDE, x -> x.ream(0, 5, by));
            refused("by, ahead of above 1000", OUTSIDE, x -> x.ream(0, 6, by));
        }
        refused("a third time", NOT, x -> x.ream(0, 5, 1));
        refused("above 1000", NOT, x -> x.ream(0, 6, 11));
        refused("above 1000", NOT, x -> x.ream(0, 6, 50));
    }

    // ---- coils

    private static void coils() {
        for (int m : Mills.outside(0, 3)) {
            refused("no such metal", UNKNOWN, x -> x.coil(m, 100, 1, true));
            refused("no such metal, ahead of outside", UNKNOWN, x -> x.coil(m, 19, 0, true));
            refused("no such metal, ahead of full", CROWDED, UNKNOWN, x -> x.coil(m, 100, 1, true));
        }
        for (int v : Mills.outside(20, 1000)) {
            refused("size", OUTSIDE, x -> x.coil(0, v, 1, true));
            refused("size, ahead of full", CROWDED, OUTSIDE, x -> x.coil(0, v, 1, true));
        }
        for (int v : Mills.outside(1, 1000)) {
            refused("feet", OUTSIDE, x -> x.coil(0, 100, v, true));
            refused("feet, ahead of full", CROWDED, OUTSIDE, x -> x.coil(0, 100, v, true));
        }
        refused("no seventeenth coil", CROWDED, FULL, x -> x.coil(0, 100, 1, true));
    }

    private static void coilsAt() {
        for (int c : new int[] {GONE, 6, ABSENT, 15, 16, -1, Mills.LEAST, Mills.MOST}) {
            refused("no coil " + c, UNKNOWN, x -> x.at(c, 0));
            refused("no coil " + c + ", ahead of outside", UNKNOWN, x -> x.at(c, 7));
            refused("no coil " + c, UNKNOWN, x -> x.stuff(c));
        }
        for (int what : Mills.outside(0, 6)) refused("what", OUTSIDE, x -> x.at(0, what));
        for (int which : Mills.outside(0, 3)) refused("ready", UNKNOWN, x -> x.ready(which));
    }

    private static void asks() {
        for (int c : new int[] {GONE, 6, ABSENT, 16, -1}) {
            refused("no such coil", UNKNOWN, x -> x.asks(c, 0, 0, 0));
            refused("no such coil, ahead of outside", UNKNOWN, x -> x.asks(c, 0, 0, 4));
        }
        for (int p : Mills.outside(0, 3)) refused("no such plate, ahead of outside", UNKNOWN, x -> x.asks(0, p, 0, 4));
        for (int h : Mills.outside(0, 6)) refused("no such hole, ahead of outside", UNKNOWN, x -> x.asks(0, 0, h, 4));
        for (int what : Mills.outside(0, 3)) {
            refused("what", OUTSIDE, x -> x.asks(0, 0, 0, what));
            refused("what, ahead of as wide", OUTSIDE, x -> x.asks(0, 0, 1, what));
        }
        refused("as wide", NOT, x -> x.asks(0, 0, 1, 0));
        refused("wider", NOT, x -> x.asks(0, 0, 6, 3));
    }

    /** Each of four that is not there, ahead of a hole that is as wide as the wire. */
    private static void drawsOfNothing() {
        for (int c : new int[] {GONE, 6, ABSENT, 16, -1, Mills.LEAST, Mills.MOST}) {
            refused("no such coil", UNKNOWN, x -> x.draw(c, 0, 0, 1));
            refused("no such coil, ahead of as wide", UNKNOWN, x -> x.draw(c, 0, 1, 1));
        }
        for (int p : Mills.outside(0, 3)) refused("no such plate", UNKNOWN, x -> x.draw(0, p, 0, 1));
        for (int h : Mills.outside(0, 6)) refused("no such hole", UNKNOWN, x -> x.draw(0, 0, h, 1));
        for (int p : Mills.outside(0, 2)) {
            refused("no such puller", UNKNOWN, x -> x.draw(0, 0, 0, p));
            refused("no such puller, ahead of as wide", UNKNOWN, x -> x.draw(0, 0, 1, p));
            refused("no such puller, ahead of brittle", UNKNOWN, x -> x.draw(0, 0, 2, p));
            refused("no such puller, ahead of torn", UNKNOWN, x -> x.draw(0, 0, 3, p));
        }
    }

    /** From 100 to 60 h' is 64; to 65 it is 57, it asks 635250 and bears 596992; to 80 it asks 396000. */
    private static void draws() {
        refused("as wide", NOT, x -> x.draw(0, 0, 1, 1));
        refused("wider", NOT, x -> x.draw(0, 0, 6, 1));
        refused("as wide, ahead of weak", NOT, x -> x.draw(0, 0, 1, 2));
        refused("brittle", BRITTLE, x -> x.draw(0, 0, 2, 1));
        refused("brittle, ahead of weak", BRITTLE, x -> x.draw(0, 0, 2, 2));
        refused("torn", TORN, x -> x.draw(0, 0, 3, 1));
        refused("torn, ahead of weak", TORN, x -> x.draw(0, 0, 3, 2));
        refused("weak", WEAK, x -> x.draw(0, 0, 4, 2));
        CHECKS.says("the first of these that fits");
        WireMill x = busy();
        x.metal(0, 100, 100, 64, 10, 5);
        CHECKS.due("no more brittle, but torn", x.draw(0, 0, 2, 1), TORN);
        x.metal(0, 100, 100, 56, 10, 5);
        CHECKS.due("brittle ahead of torn", x.draw(0, 0, 3, 1), BRITTLE);
        x.metal(0, 100, 100, 35, 10, 5);
        CHECKS.due("brittle ahead of weak alone", x.draw(0, 0, 4, 2), BRITTLE);
        x.metal(0, 100, 100, 18, 10, 5);
        CHECKS.due("19 hard is brittle", x.draw(5, 0, 4, 1), BRITTLE);
        CHECKS.due("as wide ahead of brittle", x.draw(5, 0, 0, 1), NOT);
    }

    private static void drawsThroughSpent() {
        refused("spent", SPENT, NOT, x -> x.draw(2, 0, 0, 1));
        refused("spent, ahead of weak", SPENT, NOT, x -> x.draw(2, 0, 0, 0));
        refused("no such puller, ahead of spent", SPENT, UNKNOWN, x -> x.draw(2, 0, 0, 3));
        refused("no way by a spent hole", SPENT, NOT, x -> x.go(2, 0, 1, 150, 151));
        CHECKS.says("the first of these that fits");
        WireMill x = spent();
        x.metal(0, 1, 300, 1, 0, 0);
        x.set(1, 10);
        CHECKS.due("spent, ahead of brittle, torn and weak", x.draw(2, 0, 0, 0), NOT);
        x.ream(0, 0, 1);
        CHECKS.due("reamed, brittle is ahead", x.draw(2, 0, 0, 0), BRITTLE);
        x.metal(0, 1, 0, 1, 0, 0);
        CHECKS.due("then torn", x.draw(2, 0, 0, 0), TORN);
        x.set(1, 100);
        CHECKS.due("then weak", x.draw(2, 0, 0, 0), WEAK);
        CHECKS.due("then nothing", x.draw(2, 0, 0, 1), 8);
    }

    private static void fires() {
        for (int c : new int[] {GONE, 6, ABSENT, 16, -1, Mills.LEAST, Mills.MOST}) refused("no such coil", UNKNOWN, x -> x.fire(c));
        refused("soft", NOT, x -> x.fire(0));
        refused("fired already", NOT, x -> x.fire(8));
    }

    private static void parts() {
        for (int c : new int[] {GONE, 6, ABSENT, 16, -1, Mills.LEAST, Mills.MOST}) {
            refused("no such coil", UNKNOWN, x -> x.part(c, 1));
            refused("no such coil, ahead of outside", UNKNOWN, x -> x.part(c, 0));
        }
        for (int c : new int[] {GONE, 6, 16, -1}) refused("no such coil, ahead of full", CROWDED, UNKNOWN, x -> x.part(c, 1));
        for (int f : Mills.outside(1, 49)) {
            refused("feet", OUTSIDE, x -> x.part(0, f));
            refused("feet, ahead of full", CROWDED, OUTSIDE, x -> x.part(0, f));
        }
        for (int f = -1; f < 3; f++) {
            int at = f;
            refused("of one foot none can be parted", OUTSIDE, x -> x.part(2, at));
        }
        refused("no seventeenth coil", CROWDED, FULL, x -> x.part(0, 1));
        refused("no seventeenth coil", CROWDED, FULL, x -> x.part(0, 49));
    }

    private static void joins() {
        for (int c : new int[] {GONE, 6, ABSENT, 16, -1, Mills.LEAST, Mills.MOST}) {
            refused("no such first coil", UNKNOWN, x -> x.join(c, 0));
            refused("no such second coil", UNKNOWN, x -> x.join(0, c));
            refused("no such coil, ahead of itself", UNKNOWN, x -> x.join(c, c));
            refused("no such first coil, ahead of a short second", UNKNOWN, x -> x.join(c, 2));
        }
        refused("itself", OUTSIDE, x -> x.join(0, 0));
        refused("itself, ahead of too short", OUTSIDE, x -> x.join(2, 2));
        refused("another metal", NOT, x -> x.join(0, 3));
        refused("another metal", NOT, x -> x.join(3, 0));
        refused("another size", NOT, x -> x.join(0, 4));
        refused("another size", NOT, x -> x.join(4, 0));
        refused("drawn", NOT, x -> x.join(0, 5));
        refused("too short", NOT, x -> x.join(0, 2));
    }

    private static void scraps() {
        for (int c : new int[] {GONE, 6, ABSENT, 16, -1, Mills.LEAST, Mills.MOST}) refused("no such coil", UNKNOWN, x -> x.scrap(c));
    }

    // ---- ways

    private static void refusedWay(String why, long want, int coil, int plate, int puller, int low, int high) {
        refused(why + " of way", want, x -> x.way(coil, plate, puller, low, high));
        refused(why + " of step", want, x -> x.step(coil, plate, puller, low, high, 0));
        refused(why + " of go", want, x -> x.go(coil, plate, puller, low, high));
    }

    private static void ways() {
        for (int c : new int[] {GONE, 6, ABSENT, 16, -1, Mills.LEAST, Mills.MOST}) {
            refusedWay("coil", UNKNOWN, c, 0, 1, 90, 90);
            refusedWay("coil, ahead of outside", UNKNOWN, c, 0, 1, 91, 90);
        }
        for (int p : Mills.outside(0, 3)) {
            refusedWay("plate", UNKNOWN, 0, p, 1, 90, 90);
            refusedWay("plate, ahead of outside", UNKNOWN, 0, p, 1, 19, 90);
            refusedWay("plate, though there already", UNKNOWN, 0, p, 1, 100, 100);
        }
        for (int p : Mills.outside(0, 2)) {
            refusedWay("puller", UNKNOWN, 0, 0, p, 90, 90);
            refusedWay("puller, ahead of outside", UNKNOWN, 0, 0, p, 90, 1001);
            refusedWay("puller, though there already", UNKNOWN, 0, 0, p, 100, 100);
        }
        refused("no such coil, ahead of step -1", UNKNOWN, x -> x.step(GONE, 0, 1, 90, 90, -1));
        refused("no such plate, ahead of step -1", UNKNOWN, x -> x.step(0, 4, 1, 90, 90, -1));
        refused("no such puller, ahead of step -1", UNKNOWN, x -> x.step(0, 0, 3, 90, 90, -1));
        refused("step -1", OUTSIDE, x -> x.step(0, 0, 1, 90, 90, -1));
        refused("step -1, ahead of none", OUTSIDE, x -> x.step(0, 2, 1, 90, 90, -1));
    }

    private static void waysOutside() {
        for (int v : Mills.outside(20, 1000)) {
            refusedWay("low", OUTSIDE, 0, 0, 1, v, 1000);
            refusedWay("high", OUTSIDE, 0, 0, 1, 20, v);
            refusedWay("low, ahead of none", OUTSIDE, 0, 2, 1, v, 90);
        }
        refusedWay("high below low", OUTSIDE, 0, 0, 1, 91, 90);
        refusedWay("high below low, ahead of none", OUTSIDE, 0, 2, 1, 91, 90);
        refusedWay("high below low, though there already", OUTSIDE, 0, 0, 1, 101, 100);
        refused("there is none", NOT, x -> x.go(0, 2, 1, 90, 90));
        refused("there is none", NOT, x -> x.go(0, 0, 2, 90, 90));
        refused("there is none", NOT, x -> x.go(0, 0, 1, 101, 1000));
        refused("way tells there is none", -1, x -> x.way(0, 2, 1, 90, 90));
        refused("way changes nothing", 1, x -> x.way(0, 0, 1, 90, 90));
        refused("step changes nothing", 0, x -> x.step(0, 0, 1, 90, 90, 0));
    }

    // ---- orders, notes, accounts

    private static void orders() {
        for (int m : Mills.outside(0, 3)) {
            refused("no such metal", UNKNOWN, x -> x.order(m, 20, 1000, 1));
            refused("no such metal, ahead of outside", UNKNOWN, x -> x.order(m, 19, 1000, 0));
            refused("no such metal, ahead of full", CROWDED, UNKNOWN, x -> x.order(m, 20, 1000, 1));
        }
        for (int v : Mills.outside(20, 1000)) {
            refused("low", OUTSIDE, x -> x.order(0, v, 1000, 1));
            refused("high", OUTSIDE, x -> x.order(0, 20, v, 1));
            refused("low, ahead of full", CROWDED, OUTSIDE, x -> x.order(0, v, 1000, 1));
        }
        for (int v : Mills.outside(1, 10000)) {
            refused("feet", OUTSIDE, x -> x.order(0, 20, 1000, v));
            refused("feet, ahead of full", CROWDED, OUTSIDE, x -> x.order(0, 20, 1000, v));
        }
        refused("high below low", OUTSIDE, x -> x.order(0, 100, 99, 1));
        refused("no seventh order", CROWDED, FULL, x -> x.order(0, 20, 1000, 1));
        for (int o : new int[] {4, 5, 6, -1, Mills.LEAST, Mills.MOST}) {
            refused("no such order", UNKNOWN, x -> x.from(o));
            refused("no such order", UNKNOWN, x -> x.filled(o));
        }
    }

    private static void notes() {
        for (int bits : Mills.outside(0, 7)) {
            refused("bits", OUTSIDE, x -> x.note(bits, true));
            refused("bits, ahead of full", CROWDED, OUTSIDE, x -> x.note(bits, false));
        }
        for (int i = 0; i < 16; i++) {
            int bits = i % 8;
            boolean broke = i >= 8;
            refused("no sixty-first note", CROWDED, FULL, x -> x.note(bits, broke));
        }
    }

    private static void causes() {
        for (int c : Mills.outside(0, 2)) {
            refused("no such cause", UNKNOWN, x -> x.tally(c, 0));
            refused("no such cause, ahead of outside", UNKNOWN, x -> x.tally(c, 4));
            refused("no such cause", Mills.LEAST, x -> x.by(c, 0));
            refused("no such cause, and outside", Mills.LEAST, x -> x.by(c, 2));
            refused("no such cause", UNKNOWN, x -> x.chance(c));
        }
        for (int what : Mills.outside(0, 3)) refused("what", OUTSIDE, x -> x.tally(0, what));
        for (int part : Mills.outside(0, 1)) refused("part", Mills.LEAST, x -> x.by(0, part));
        CHECKS.says("the least int: UNKNOWN, OUTSIDE, NOT: there is none");
        CHECKS.due("a part that is not, ahead of none", new WireMill().by(0, 2), Mills.LEAST);
    }

    private static void accounts() {
        for (int what : Mills.outside(0, 4)) refused("what", OUTSIDE, x -> x.account(what));
        for (int what : Mills.outside(0, 6)) refused("what", OUTSIDE, x -> x.count(what));
    }
}
