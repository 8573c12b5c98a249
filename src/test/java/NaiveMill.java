import java.math.BigInteger;
import java.util.ArrayList;
import java.util.List;

/**
 * The document once more, in the slowest and plainest form: every way and every cutting is tried.
 * It is what NaiveMillTest holds WireMill against.
 */
final class NaiveMill {
    static final long NONE = -1, UNKNOWN = -2, OUTSIDE = -3, NOT = -4, BRITTLE = -5, TORN = -6, WEAK = -7, FULL = -8;

    static final class Coil { int metal; long size, hard, stuff, joints, ready; boolean bad;
        long feet() { return stuff / (size * size); } }
    static final class Hole { long nominal, wear, reams;
        long wide() { return nominal + wear / 1000; }
        boolean spent() { return wide() > nominal + 50; } }
    static final class Order { int metal; long low, high, feet; boolean filled; }
    record Note(int bits, boolean broke) { }
    record Draw(long asks, long bears, long harder, long thinner) { }

    final long[][] metals = {{100, 100, 60, 10, 5}, {100, 100, 60, 10, 5}, {100, 100, 60, 10, 5}, {100, 100, 60, 10, 5}};
    final long[] set = {20, 80, 10, 60, 2, 5};
    final long[] pull = new long[3], speed = {10, 10, 10}, ready = new long[4];
    final List<List<Hole>> plates = List.of(new ArrayList<>(), new ArrayList<>(), new ArrayList<>(), new ArrayList<>());
    final List<Coil> coils = new ArrayList<>();
    final List<Order> orders = new ArrayList<>();
    final List<Note> notes = new ArrayList<>();
    long in, delivered, scrap, scaled, draws, fires;

    static boolean in(long v, long low, long high) { return low <= v && v <= high; }

    Coil coilOf(int n) { return in(n, 0, coils.size() - 1) && coils.get(n).feet() > 0 ? coils.get(n) : null; }
    Hole holeOf(int p, int n) { return in(p, 0, 3) && in(n, 0, plates.get(p).size() - 1) ? plates.get(p).get(n) : null; }

    // ---- metals, tools

    long metal(int m, int base, int gain, int limit, int abrade, int scale) {
        if (!in(m, 0, 3)) return UNKNOWN;
        boolean right = in(base, 1, 200) && in(gain, 0, 300) && in(limit, 1, 100) && in(abrade, 0, 50) && in(scale, 0, 50);
        if (!right) return OUTSIDE;
        metals[m] = new long[] {base, gain, limit, abrade, scale};
        return 1;
    }

    long set(int what, int v) {
        if (!in(what, 0, 5)) return OUTSIDE;
        int[][] bounds = {{0, 100}, {10, 100}, {0, 10}, {1, 500}, {0, 20}, {1, 100}};
        if (!in(v, bounds[what][0], bounds[what][1])) return OUTSIDE;
        long was = set[what];
        set[what] = v;
        return was;
    }

    long puller(int p, int strong, int fast) {
        if (!in(p, 0, 2)) return UNKNOWN;
        if (!in(strong, 0, 100000000) || !in(fast, 10, 1000)) return OUTSIDE;
        pull[p] = strong;
        speed[p] = fast;
        return 1;
    }

    long hole(int p, int nominal) {
        if (!in(p, 0, 3)) return UNKNOWN;
        if (!in(nominal, 20, 1000)) return OUTSIDE;
        if (plates.get(p).size() == 8) return FULL;
        Hole h = new Hole();
        h.nominal = nominal;
        plates.get(p).add(h);
        return plates.get(p).size() - 1;
    }

    long told(int p, int n, int what) {
        Hole h = holeOf(p, n);
        if (h == null) return UNKNOWN;
        if (!in(what, 0, 4)) return OUTSIDE;
        return new long[] {h.nominal, h.wear, h.wide(), h.reams, h.spent() ? 1 : 0}[what];
    }

    long gauge(int p, int n) {
        Hole h = holeOf(p, n);
        return h == null ? UNKNOWN : h.wide() - h.nominal;
    }

    long ream(int p, int n, int by) {
        Hole h = holeOf(p, n);
        if (h == null) return UNKNOWN;
        if (!in(by, 1, 50)) return OUTSIDE;
        if (h.reams == 2 || h.wide() + by > 1000) return NOT;
        h.nominal = h.wide() + by;
        h.wear = 0;
        h.reams++;
        return h.nominal;
    }

    // ---- coils

    long coil(int m, int size, int feet, boolean bad) {
        if (!in(m, 0, 3)) return UNKNOWN;
        if (!in(size, 20, 1000) || !in(feet, 1, 1000)) return OUTSIDE;
        if (coils.size() == 16) return FULL;
        Coil c = new Coil();
        c.metal = m;
        c.size = size;
        c.stuff = c.size * c.size * feet;
        c.bad = bad;
        in += c.stuff;
        coils.add(c);
        return coils.size() - 1;
    }

    long at(int n, int what) {
        Coil c = coilOf(n);
        if (c == null) return UNKNOWN;
        if (!in(what, 0, 6)) return OUTSIDE;
        return new long[] {c.metal, c.size, c.hard, c.feet(), c.joints, c.ready, c.bad ? 1 : 0}[what];
    }

    long stuff(int n) { return coilOf(n) == null ? UNKNOWN : coilOf(n).stuff; }

    Draw reckon(Coil c, long s, long h, long w) {
        long base = metals[c.metal][0], gain = metals[c.metal][1];
        long thinner = 1000 - 1000 * w * w / (s * s);
        long harder = h + gain * thinner / 1000;
        long asks = (s * s - w * w) * (base * (100 + h)) / 100;
        asks += asks * set[0] / 100;
        long bears = w * w * (base * (100 + harder)) / 100;
        if (c.joints > 0) bears = bears * 8 / 10;
        bears = bears * set[1] / 100;
        return new Draw(asks, bears, harder, thinner);
    }

    long asks(int n, int p, int hn, int what) {
        Coil c = coilOf(n);
        Hole h = holeOf(p, hn);
        if (c == null || h == null) return UNKNOWN;
        if (!in(what, 0, 3)) return OUTSIDE;
        if (h.wide() >= c.size) return NOT;
        Draw d = reckon(c, c.size, c.hard, h.wide());
        return new long[] {d.asks, d.bears, d.harder, d.thinner}[what];
    }

    /** Why not; 0, if it may be and the puller can. */
    long whyNot(Coil c, long s, long hard, Hole h, int puller) {
        if (h.spent() || h.wide() >= s) return NOT;
        Draw d = reckon(c, s, hard, h.wide());
        long strong = puller == 0 ? pull[0] * set[2] / 10 : pull[puller];
        return d.harder > metals[c.metal][2] ? BRITTLE : d.asks > d.bears ? TORN : d.asks > strong ? WEAK : 0;
    }

    long draw(int n, int p, int hn, int puller) {
        Coil c = coilOf(n);
        Hole h = holeOf(p, hn);
        if (c == null || h == null || !in(puller, 0, 2)) return UNKNOWN;
        long no = whyNot(c, c.size, c.hard, h, puller);
        if (no != 0) return no;
        long hard = c.hard;
        c.hard = reckon(c, c.size, c.hard, h.wide()).harder;
        c.size = h.wide();
        h.wear += c.feet() * metals[c.metal][3] * (100 + hard) / 10000;
        long minutes = c.feet() / speed[puller] + (c.feet() % speed[puller] == 0 ? 0 : 1) + 1;
        c.ready = Math.max(c.ready, ready[puller]) + minutes;
        ready[puller] = c.ready;
        draws++;
        return c.feet();
    }

    void clear(Coil c) {
        scrap += c.stuff;
        c.stuff = 0;
    }

    long fire(int n) {
        Coil c = coilOf(n);
        if (c == null) return UNKNOWN;
        if (c.hard == 0) return NOT;
        c.ready = Math.max(c.ready, ready[3]) + set[3];
        ready[3] = c.ready;
        c.hard = 0;
        long lost = c.stuff * metals[c.metal][4] / 1000;
        c.stuff -= lost;
        scaled += lost;
        fires++;
        if (c.feet() == 0) clear(c);
        return c.ready;
    }

    long part(int n, int f) {
        Coil c = coilOf(n);
        if (c == null) return UNKNOWN;
        if (!in(f, 1, c.feet() - 1)) return OUTSIDE;
        if (coils.size() == 16) return FULL;
        Coil o = new Coil();
        o.metal = c.metal; o.size = c.size; o.hard = c.hard; o.joints = c.joints; o.ready = c.ready; o.bad = c.bad;
        o.stuff = c.stuff - f * c.size * c.size;
        c.stuff = f * c.size * c.size;
        coils.add(o);
        return coils.size() - 1;
    }

    long join(int one, int two) {
        Coil a = coilOf(one), b = coilOf(two);
        if (a == null || b == null) return UNKNOWN;
        if (one == two) return OUTSIDE;
        if (a.metal != b.metal || a.size != b.size || b.feet() < set[4] + 1) return NOT;
        long lost = set[4] * b.size * b.size;
        a.stuff += b.stuff - lost;
        scrap += lost;
        b.stuff = 0;
        a.hard = Math.max(a.hard, b.hard);
        a.joints = a.joints + b.joints + 1;
        a.ready = Math.max(a.ready, b.ready);
        a.bad |= b.bad;
        return a.feet();
    }

    long scrap(int n) {
        if (coilOf(n) == null) return UNKNOWN;
        clear(coilOf(n));
        return 1;
    }

    long ready(int which) { return in(which, 0, 3) ? ready[which] : UNKNOWN; }

    // ---- ways

    /** All ways are gone through; the best one, or null. */
    List<Integer> bestWay(Coil c, int p, int puller, int low, int high) {
        List<List<Integer>> best = new ArrayList<>();
        walk(c, c.size, c.hard, p, puller, low, high, new ArrayList<>(), best);
        return best.isEmpty() ? null : best.get(0);
    }

    private void walk(Coil c, long s, long h, int p, int puller, int low, int high, List<Integer> row, List<List<Integer>> best) {
        if (in(s, low, high) && (best.isEmpty() || better(row, best.get(0)))) {
            best.clear();
            best.add(new ArrayList<>(row));
        }
        for (int i = 0; i <= 8; i++) {
            boolean can = i == 8 ? h > 0 : i < plates.get(p).size() && whyNot(c, s, h, plates.get(p).get(i), puller) == 0;
            if (!can) continue;
            row.add(i);
            if (i == 8) walk(c, s, 0, p, puller, low, high, row, best);
            else {
                long w = plates.get(p).get(i).wide();
                walk(c, w, reckon(c, s, h, w).harder, p, puller, low, high, row, best);
            }
            row.remove(row.size() - 1);
        }
    }

    static long firesIn(List<Integer> row) { return row.stream().filter(i -> i == 8).count(); }

    private static boolean better(List<Integer> one, List<Integer> two) {
        long f = firesIn(one) - firesIn(two);
        if (f != 0) return f < 0;
        if (one.size() != two.size()) return one.size() < two.size();
        for (int i = 0; i < one.size(); i++) {
            if (!one.get(i).equals(two.get(i))) return one.get(i) < two.get(i);
        }
        return false;
    }

    private long wrongWay(int n, int p, int puller, int low, int high) {
        if (coilOf(n) == null || !in(p, 0, 3) || !in(puller, 0, 2)) return UNKNOWN;
        return !in(low, 20, 1000) || !in(high, 20, 1000) || low > high ? OUTSIDE : 0;
    }

    long way(int n, int p, int puller, int low, int high) {
        long no = wrongWay(n, p, puller, low, high);
        if (no != 0) return no;
        List<Integer> way = bestWay(coilOf(n), p, puller, low, high);
        return way == null ? NONE : 100 * firesIn(way) + way.size() - firesIn(way);
    }

    long step(int n, int p, int puller, int low, int high, int i) {
        long no = wrongWay(n, p, puller, low, high);
        if (no != 0) return no;
        if (i < 0) return OUTSIDE;
        List<Integer> way = bestWay(coilOf(n), p, puller, low, high);
        return way == null || i >= way.size() ? NONE : way.get(i);
    }

    long go(int n, int p, int puller, int low, int high) {
        long no = wrongWay(n, p, puller, low, high);
        if (no != 0) return no;
        List<Integer> way = bestWay(coilOf(n), p, puller, low, high);
        if (way == null) return NOT;
        int done = 0;
        while (done < way.size()) {
            long answer = way.get(done) == 8 ? fire(n) : draw(n, p, way.get(done), puller);
            if (answer < 0) break;
            done++;
        }
        return done;
    }

    // ---- orders

    long order(int m, int low, int high, int feet) {
        if (!in(m, 0, 3)) return UNKNOWN;
        if (!in(low, 20, 1000) || !in(high, 20, 1000) || low > high || !in(feet, 1, 10000)) return OUTSIDE;
        if (orders.size() == 6) return FULL;
        Order o = new Order();
        o.metal = m; o.low = low; o.high = high; o.feet = feet;
        orders.add(o);
        return orders.size() - 1;
    }

    private long bestFeet;
    private long bestUsed;
    private int[] bestRow;

    /** All cuttings are tried, those with lesser coils ahead, none behind: the first of the best stays. */
    private void tryAll() {
        bestFeet = -1;
        assign(new int[orders.size()], 0);
    }

    private void assign(int[] row, int i) {
        if (i == row.length) {
            weigh(row);
            return;
        }
        Order o = orders.get(i);
        for (int n = 0; n < coils.size(); n++) {
            Coil c = coils.get(n);
            if (o.filled || c.feet() == 0 || c.metal != o.metal || !in(c.size, o.low, o.high)) continue;
            long taken = o.feet;
            for (int k = 0; k < i; k++) if (row[k] == n) taken += orders.get(k).feet;
            if (taken > c.feet()) continue;
            row[i] = n;
            assign(row, i + 1);
        }
        row[i] = -1;
        assign(row, i + 1);
    }

    private void weigh(int[] row) {
        long feet = 0;
        boolean[] used = new boolean[16];
        for (int i = 0; i < row.length; i++) {
            if (row[i] < 0) continue;
            feet += orders.get(i).feet;
            used[row[i]] = true;
        }
        long many = 0;
        for (boolean u : used) if (u) many++;
        if (feet > bestFeet || feet == bestFeet && many < bestUsed) {
            bestFeet = feet;
            bestUsed = many;
            bestRow = row.clone();
        }
    }

    long cutting() {
        tryAll();
        return bestFeet;
    }

    long from(int o) {
        if (!in(o, 0, orders.size() - 1)) return UNKNOWN;
        tryAll();
        return bestRow[o];
    }

    long cut() {
        tryAll();
        long made = 0;
        for (int i = 0; i < bestRow.length; i++) {
            if (bestRow[i] < 0) continue;
            Coil c = coils.get(bestRow[i]);
            long stuff = orders.get(i).feet * c.size * c.size;
            c.stuff -= stuff;
            delivered += stuff;
            orders.get(i).filled = true;
            made++;
        }
        for (int n : bestRow) if (n >= 0 && coils.get(n).feet() < set[5]) clear(coils.get(n));
        return made;
    }

    long filled(int o) { return !in(o, 0, orders.size() - 1) ? UNKNOWN : orders.get(o).filled ? 1 : 0; }

    // ---- notes, accounts

    long note(int bits, boolean broke) {
        if (!in(bits, 0, 7)) return OUTSIDE;
        if (notes.size() == 60) return FULL;
        notes.add(new Note(bits, broke));
        return notes.size();
    }

    private long[] four(int cause) {
        long[] f = new long[4];
        int bit = new int[] {1, 2, 4}[cause];
        for (Note n : notes) f[((n.bits & bit) != 0 ? 0 : 2) + (n.broke ? 0 : 1)]++;
        return f;
    }

    long tally(int cause, int what) {
        return !in(cause, 0, 2) ? UNKNOWN : !in(what, 0, 3) ? OUTSIDE : four(cause)[what];
    }

    long by(int cause, int part) {
        if (!in(cause, 0, 2) || !in(part, 0, 1)) return Integer.MIN_VALUE;
        long[] f = four(cause);
        long with = f[0] + f[1], without = f[2] + f[3];
        if (with == 0 || without == 0) return Integer.MIN_VALUE;
        BigInteger above = BigInteger.valueOf(f[0] * without - f[2] * with), below = BigInteger.valueOf(with * without);
        BigInteger both = above.gcd(below);
        return (part == 0 ? above : below).divide(both).longValue();
    }

    private static BigInteger factorial(long n) {
        BigInteger f = BigInteger.ONE;
        for (long i = 2; i <= n; i++) f = f.multiply(BigInteger.valueOf(i));
        return f;
    }

    private static BigInteger choose(long n, long k) {
        return k < 0 || k > n ? BigInteger.ZERO : factorial(n).divide(factorial(k).multiply(factorial(n - k)));
    }

    long chance(int cause) {
        if (!in(cause, 0, 2)) return UNKNOWN;
        long[] f = four(cause);
        BigInteger such = BigInteger.ZERO;
        for (long i = f[0]; i <= 60; i++) {
            such = such.add(choose(f[0] + f[1], i).multiply(choose(f[2] + f[3], f[0] + f[2] - i)));
        }
        return such.multiply(BigInteger.valueOf(20)).compareTo(choose(notes.size(), f[0] + f[2])) <= 0 ? 1 : 0;
    }

    long cause() {
        long found = NONE;
        for (int i = 0; i < 3; i++) {
            if (chance(i) == 0) continue;
            if (found == NONE || by(i, 0) * by((int) found, 1) > by((int) found, 0) * by(i, 1)) found = i;
        }
        return found;
    }

    long account(int what) {
        if (!in(what, 0, 4)) return OUTSIDE;
        return new long[] {in, coils.stream().mapToLong(c -> c.stuff).sum(), delivered, scrap, scaled}[what];
    }

    long count(int what) {
        if (!in(what, 0, 6)) return OUTSIDE;
        long left = coils.stream().filter(c -> c.feet() > 0).count();
        long full = orders.stream().filter(o -> o.filled).count();
        return new long[] {coils.size(), left, orders.size(), full, notes.size(), draws, fires}[what];
    }
}
