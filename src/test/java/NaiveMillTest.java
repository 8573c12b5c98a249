/** Long runs of calls, always the same ones, on WireMill and on NaiveMill: both answer alike. */
public final class NaiveMillTest {
    /** A look makes 244 calls more and one pick 19 at most: an object has 512. */
    private static final int CALLS = 240;
    private static final int[] EDGES = {-2147483648, -1, 0, 1, 2, 3, 4, 5, 6, 7, 8, 9, 10, 16, 19, 20, 50, 51, 100, 101,
        1000, 1001, 10000, 10001, 2147483647};

    private final Checks checks;
    private WireMill mill;
    private NaiveMill naive;
    private Luck luck;
    private String last;
    private int calls;

    private NaiveMillTest(Checks checks) {
        this.checks = checks;
    }

    public static void main(String[] args) {
        Checks checks = new Checks();
        NaiveMillTest test = new NaiveMillTest(checks);
        for (int run = 0; run < 2000 && checks.wrong() < 20; run++) test.run(run);
        checks.end();
    }

    private void run(int run) {
        mill = new WireMill();
        naive = new NaiveMill();
        luck = new Luck(77 + 1000003L * run);
        calls = 0;
        for (int i = 0; i < 25; i++) pick(0);
        int stress = run % 4, most = any(60, CALLS);
        for (int i = 0; i < 4 * CALLS && calls < most && checks.wrong() < 20; i++) {
            if (any(0, 9) == 0) pick(any(0, 4));
            else pick(stress);
        }
        look(run);
        long all = mill.account(1) + mill.account(2) + mill.account(3) + mill.account(4);
        checks.due("run " + run + ": all that came in", all, mill.account(0));
        checks.holds("run " + run + ": calls " + calls, calls + 5 <= 512);
    }

    private int any(int low, int high) {
        return luck.any(low, high);
    }

    /** Mostly a number that is right, now and then one at some edge. */
    private int near(int low, int high) {
        switch (any(0, 39)) {
            case 0: return EDGES[any(0, EDGES.length - 1)];
            case 1: return low - 1;
            case 2: return high + 1;
            case 3: return low;
            case 4: return high;
            default: return any(low, high);
        }
    }

    private int aCoil() {
        int n = (int) naive.count(0);
        int pick = near(0, Math.max(0, n - 1));
        for (int i = 0; i < 6 && naive.at(pick, 0) < 0 && any(0, 9) > 0; i++) pick = any(0, Math.max(0, n - 1));
        return pick;
    }

    private void due(String call, long got, long want) {
        last = call;
        calls++;
        checks.due(call, got, want);
    }

    private void pick(int stress) {
        switch (stress) {
            case 0: setUp(any(0, 9)); break;
            case 1: work(any(0, 11)); break;
            case 2: sell(any(0, 7)); break;
            case 3: tell(any(0, 9)); break;
            default: edge();
        }
    }

    private void setUp(int which) {
        int a = near(0, 3), b, c, d, e, f;
        switch (which) {
            case 0:
                b = near(1, 200); c = near(0, 300); d = near(1, 100); e = near(0, 50); f = near(0, 50);
                due("metal", mill.metal(a, b, c, d, e, f), naive.metal(a, b, c, d, e, f)); break;
            case 1:
                b = near(0, 5); c = any(0, 2) == 0 ? near(0, 20) : near(60, 100);
                due("set", mill.set(b, c), naive.set(b, c)); break;
            case 2: case 3:
                b = near(0, 2); c = any(0, 3) == 0 ? near(0, 100000000) : 100000000; d = near(10, 1000);
                due("puller", mill.puller(b, c, d), naive.puller(b, c, d)); break;
            case 4: case 5: case 6:
                b = any(0, 3) == 0 ? near(20, 1000) : near(200, 420);
                c = any(0, 1);
                due("hole", mill.hole(c, b), naive.hole(c, b)); break;
            default:
                b = any(0, 3) == 0 ? near(20, 1000) : any(300, 310); c = near(1, any(0, 1) == 0 ? 1000 : 30);
                boolean bad = any(0, 3) == 0;
                if (naive.count(0) < 10 || any(0, 30) == 0) due("coil", mill.coil(a, b, c, bad), naive.coil(a, b, c, bad));
        }
    }

    private void work(int which) {
        int a = aCoil(), b = near(0, 1), c = near(0, 7), d = near(0, 2), e, f;
        switch (which) {
            case 0: due("asks", mill.asks(a, b, c, which), naive.asks(a, b, c, which)); break;
            case 1: e = near(0, 3); due("asks", mill.asks(a, b, c, e), naive.asks(a, b, c, e)); break;
            case 2: case 3: due("draw", mill.draw(a, b, c, d), naive.draw(a, b, c, d)); break;
            case 4: due("fire", mill.fire(a), naive.fire(a)); break;
            case 5: e = near(1, 50); due("part", mill.part(a, e), naive.part(a, e)); break;
            case 6: e = aCoil(); due("join", mill.join(a, e), naive.join(a, e)); break;
            case 7: e = near(1, 50); due("ream", mill.ream(b, c, e), naive.ream(b, c, e)); break;
            case 8: if (any(0, 9) == 0) due("scrap", mill.scrap(a), naive.scrap(a)); break;
            case 9: e = near(200, 420); f = e + any(0, 9); due("go", mill.go(a, b, d, e, f), naive.go(a, b, d, e, f)); break;
            case 10: e = near(20, 420); f = e + any(-1, 30); due("way", mill.way(a, b, d, e, f), naive.way(a, b, d, e, f)); break;
            default: e = near(20, 420); f = e + any(-1, 9); steps(a, b, d, e, f);
        }
    }

    private void steps(int a, int b, int d, int low, int high) {
        int way = (int) naive.way(a, b, d, low, high);
        int length = way <= 0 ? 0 : way / 100 + way % 100;
        for (int i = -1; i <= length; i++) {
            due("step", mill.step(a, b, d, low, high, i), naive.step(a, b, d, low, high, i));
        }
    }

    private void sell(int which) {
        int a = near(0, 3), b, c, d;
        switch (which) {
            case 0: case 1:
                b = any(0, 2) == 0 ? near(20, 1000) : near(250, 305); c = b + any(-1, 60); d = near(1, 30);
                due("order", mill.order(a, b, c, d), naive.order(a, b, c, d)); break;
            case 2: case 3: due("cutting", mill.cutting(), naive.cutting()); break;
            case 4: case 5: b = near(0, 5); due("from", mill.from(b), naive.from(b)); break;
            case 6: if (any(0, 3) == 0) due("cut", mill.cut(), naive.cut()); break;
            default: setUp(any(1, 9));
        }
    }

    private void tell(int which) {
        int a = near(0, 2), b;
        switch (which) {
            case 0: case 1:
                b = near(0, 7); boolean broke = any(0, 9) < (b & 3) * 3 + 1;
                due("note", mill.note(b, broke), naive.note(b, broke)); break;
            case 2: case 3: b = near(0, 3); due("tally", mill.tally(a, b), naive.tally(a, b)); break;
            case 4: case 5: b = near(0, 1); due("by", mill.by(a, b), naive.by(a, b)); break;
            case 6: case 7: due("chance", mill.chance(a), naive.chance(a)); break;
            case 8: due("cause", mill.cause(), naive.cause()); break;
            default: setUp(any(1, 9));
        }
    }

    private int far() {
        return EDGES[any(0, EDGES.length - 1)];
    }

    private void edge() {
        int a = far(), b = far(), c = far(), d = far(), e = far(), f = far();
        switch (any(0, 13)) {
            case 0: due("metal", mill.metal(a, b, c, d, e, f), naive.metal(a, b, c, d, e, f)); break;
            case 1: due("set", mill.set(a, b), naive.set(a, b)); break;
            case 2: due("hole", mill.hole(a, b), naive.hole(a, b)); break;
            case 3: due("told", mill.told(a, b, c), naive.told(a, b, c)); break;
            case 4: due("gauge", mill.gauge(a, b), naive.gauge(a, b)); break;
            case 5: due("ream", mill.ream(a, b, c), naive.ream(a, b, c)); break;
            case 6: due("at", mill.at(a, b), naive.at(a, b)); break;
            case 7: due("asks", mill.asks(a, b, c, d), naive.asks(a, b, c, d)); break;
            case 8: due("draw", mill.draw(a, b, c, d), naive.draw(a, b, c, d)); break;
            case 9: due("step", mill.step(a, b, c, d, e, f), naive.step(a, b, c, d, e, f)); break;
            case 10: due("go", mill.go(a, b, c, d, e), naive.go(a, b, c, d, e)); break;
            case 11: due("order", mill.order(a, b, c, d), naive.order(a, b, c, d)); break;
            case 12: due("ready", mill.ready(a), naive.ready(a)); break;
            default: due("account", mill.account(a), naive.account(a));
        }
    }

    /** What can be seen; nearly all work is done with the first two plates. */
    private void look(int run) {
        String where = "run " + run + ", behind " + last + ": ";
        for (int i = 0; i < 16; i++) {
            for (int k = 0; k < 7; k++) due(where + "at " + i + " " + k, mill.at(i, k), naive.at(i, k));
            due(where + "stuff " + i, mill.stuff(i), naive.stuff(i));
        }
        for (int i = 0; i < 16; i++) {
            for (int k = 0; k < 5; k++) due(where + "told " + i + " " + k, mill.told(i / 8, i % 8, k), naive.told(i / 8, i % 8, k));
        }
        for (int i = -1; i <= 7; i++) {
            due(where + "ready " + i, mill.ready(i), naive.ready(i));
            due(where + "filled " + i, mill.filled(i), naive.filled(i));
            due(where + "account " + i, mill.account(i), naive.account(i));
            due(where + "count " + i, mill.count(i), naive.count(i));
        }
    }
}
