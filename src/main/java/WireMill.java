/** A wire mill by the document DOC.md: metals, holes, coils, ways, orders, notes and accounts. */
public final class WireMill {
    public static final int NONE = -1, UNKNOWN = -2, OUTSIDE = -3, NOT = -4, BRITTLE = -5, TORN = -6, WEAK = -7, FULL = -8;

    private static final int METALS = 4, PLATES = 4, PULLERS = 3, COILS = 16, HOLES = 8, ORDERS = 6, NOTES = 60, CAUSES = 3;
    private static final int LEAST_SIZE = 20, MOST_SIZE = 1000, MOST_HARDNESS = 100;
    /** The step of a way that is no hole. */
    private static final int FIRE = 8;
    private static final int LEAST_INT = -2147483648;

    private final Settings settings = new Settings();
    private final Metal[] metals = new Metal[METALS];
    private final Puller[] pullers = new Puller[PULLERS];
    private final Plate[] plates = new Plate[PLATES];
    private final Coil[] coils = new Coil[COILS];
    private final Order[] orders = new Order[ORDERS];
    private final Notes notes = new Notes();
    private final Draft draft = new Draft(settings);
    private final Route route = new Route(draft);
    private final Cutting best = new Cutting();
    private int coilCount;
    private int orderCount;
    private int fireReady;
    private long cameIn;
    private long delivered;
    private long scrapped;
    private long scaled;
    private int drawsMade;
    private int firesMade;

    public WireMill() {
        for (int i = 0; i < metals.length; i++) metals[i] = new Metal(i);
        for (int i = 0; i < pullers.length; i++) pullers[i] = new Puller(i == 0);
        for (int i = 0; i < plates.length; i++) plates[i] = new Plate();
    }

    // ---- metals, tools

    public int metal(int metal, int base, int gain, int limit, int abrade, int scale) {
        Metal stuff = metalAt(metal);
        if (stuff == null) return UNKNOWN;
        if (!isWithin(base, 1, 200) || !isWithin(gain, 0, 300) || !isWithin(limit, 1, MOST_HARDNESS)) return OUTSIDE;
        if (!isWithin(abrade, 0, 50) || !isWithin(scale, 0, 50)) return OUTSIDE;
        stuff.base = base;
        stuff.gain = gain;
        stuff.limit = limit;
        stuff.abrade = abrade;
        stuff.scale = scale;
        return 1;
    }

    public int set(int what, int v) {
        if (!settings.admits(what, v)) return OUTSIDE;
        int before = settings.value(what);
        settings.change(what, v);
        return before;
    }

    public int puller(int puller, int pull, int speed) {
        Puller who = pullerAt(puller);
        if (who == null) return UNKNOWN;
        if (!isWithin(pull, 0, 100000000) || !isWithin(speed, 10, 1000)) return OUTSIDE;
        who.pull = pull;
        who.speed = speed;
        return 1;
    }

    public int hole(int plate, int nominal) {
        Plate of = plateAt(plate);
        if (of == null) return UNKNOWN;
        if (!isSize(nominal)) return OUTSIDE;
        return of.bore(nominal);
    }

    public int told(int plate, int hole, int what) {
        Hole of = holeAt(plate, hole);
        if (of == null) return UNKNOWN;
        switch (what) {
            case 0: return of.nominal;
            case 1: return of.wear;
            case 2: return of.wide();
            case 3: return of.reams;
            case 4: return of.isSpent() ? 1 : 0;
            default: return OUTSIDE;
        }
    }

    public int gauge(int plate, int hole) {
        Hole of = holeAt(plate, hole);
        return of == null ? UNKNOWN : of.wide() - of.nominal;
    }

    public int ream(int plate, int hole, int by) {
        Hole of = holeAt(plate, hole);
        if (of == null) return UNKNOWN;
        if (!isWithin(by, 1, 50)) return OUTSIDE;
        int wider = of.wide() + by;
        if (of.reams >= 2 || wider > MOST_SIZE) return NOT;
        of.nominal = wider;
        of.wear = 0;
        of.reams++;
        return wider;
    }

    // ---- coils

    public int coil(int metal, int size, int feet, boolean isBad) {
        Metal of = metalAt(metal);
        if (of == null) return UNKNOWN;
        if (!isSize(size) || !isWithin(feet, 1, 1000)) return OUTSIDE;
        if (coilCount >= coils.length) return FULL;
        Coil rod = new Coil(of, size, (long) size * size * feet, isBad);
        cameIn += rod.stuff;
        return addCoil(rod);
    }

    public int at(int coil, int what) {
        Coil wire = coilAt(coil);
        if (wire == null) return UNKNOWN;
        switch (what) {
            case 0: return wire.metal.number;
            case 1: return wire.size;
            case 2: return wire.hardness;
            case 3: return wire.feet();
            case 4: return wire.joints;
            case 5: return wire.ready;
            case 6: return wire.isBad ? 1 : 0;
            default: return OUTSIDE;
        }
    }

    public long stuff(int coil) {
        Coil wire = coilAt(coil);
        return wire == null ? UNKNOWN : wire.stuff;
    }

    public int asks(int coil, int plate, int hole, int what) {
        Coil wire = coilAt(coil);
        Hole through = holeAt(plate, hole);
        if (wire == null || through == null) return UNKNOWN;
        if (!isWithin(what, 0, 3)) return OUTSIDE;
        if (through.wide() >= wire.size) return NOT;
        draft.reckon(wire, wire.size, wire.hardness, through.wide());
        switch (what) {
            case 0: return draft.asked;
            case 1: return draft.borne;
            case 2: return draft.harder;
            default: return draft.thinner;
        }
    }

    public int draw(int coil, int plate, int hole, int puller) {
        Coil wire = coilAt(coil);
        Hole through = holeAt(plate, hole);
        Puller who = pullerAt(puller);
        if (wire == null || through == null || who == null) return UNKNOWN;
        int refusal = draft.refusal(wire, wire.size, wire.hardness, through, pullOf(who));
        return refusal < 0 ? refusal : pullThrough(wire, through, who);
    }

    public int fire(int coil) {
        Coil wire = coilAt(coil);
        if (wire == null) return UNKNOWN;
        if (wire.hardness == 0) return NOT;
        int done = Math.max(wire.ready, fireReady) + settings.heat;
        wire.ready = done;
        fireReady = done;
        wire.hardness = 0;
        long lost = wire.stuff * wire.metal.scale / 1000;
        wire.stuff -= lost;
        scaled += lost;
        firesMade++;
        if (wire.feet() == 0) throwAway(wire);
        return done;
    }

    public int part(int coil, int f) {
        Coil wire = coilAt(coil);
        if (wire == null) return UNKNOWN;
        if (!isWithin(f, 1, wire.feet() - 1)) return OUTSIDE;
        if (coilCount >= coils.length) return FULL;
        long kept = wire.stuffOf(f);
        Coil other = new Coil(wire.metal, wire.size, wire.stuff - kept, wire.isBad);
        other.hardness = wire.hardness;
        other.joints = wire.joints;
        other.ready = wire.ready;
        wire.stuff = kept;
        return addCoil(other);
    }

    public int join(int one, int two) {
        Coil first = coilAt(one);
        Coil second = coilAt(two);
        if (first == null || second == null) return UNKNOWN;
        if (one == two) return OUTSIDE;
        if (first.metal != second.metal || first.size != second.size) return NOT;
        if (second.feet() < settings.loss + 1) return NOT;
        long lost = second.stuffOf(settings.loss);
        first.stuff += second.stuff - lost;
        second.stuff = 0;
        scrapped += lost;
        first.hardness = Math.max(first.hardness, second.hardness);
        first.joints += second.joints + 1;
        first.ready = Math.max(first.ready, second.ready);
        first.isBad = first.isBad || second.isBad;
        return first.feet();
    }

    public int scrap(int coil) {
        Coil wire = coilAt(coil);
        if (wire == null) return UNKNOWN;
        throwAway(wire);
        return 1;
    }

    public int ready(int which) {
        if (which == PULLERS) return fireReady;
        Puller who = pullerAt(which);
        return who == null ? UNKNOWN : who.ready;
    }

    // ---- ways

    public int way(int coil, int plate, int puller, int low, int high) {
        return seekWay(coil, plate, puller, low, high);
    }

    public int step(int coil, int plate, int puller, int low, int high, int i) {
        int found = seekWay(coil, plate, puller, low, high);
        if (found == UNKNOWN) return UNKNOWN;
        if (found == OUTSIDE || i < 0) return OUTSIDE;
        return found == NONE ? NONE : route.stepAt(i);
    }

    public int go(int coil, int plate, int puller, int low, int high) {
        int found = seekWay(coil, plate, puller, low, high);
        if (found < 0) return found == NONE ? NOT : found;
        int steps = route.length;
        for (int i = 0; i < steps; i++) {
            int next = route.stepAt(i);
            // a fire may leave the coil without feet: what is behind it can't be done then
            int done = next == FIRE ? fire(coil) : draw(coil, plate, next, puller);
            if (done < 0) return i;
        }
        return steps;
    }

    // ---- orders

    public int order(int metal, int low, int high, int feet) {
        Metal of = metalAt(metal);
        if (of == null) return UNKNOWN;
        if (!isRange(low, high) || !isWithin(feet, 1, 10000)) return OUTSIDE;
        if (orderCount < 0 || orderCount >= orders.length) return FULL;
        orders[orderCount] = new Order(of, low, high, feet);
        return orderCount++;
    }

    public int cutting() {
        best.seek(coils, orders);
        return best.feet;
    }

    public int from(int order) {
        if (orderAt(order) == null) return UNKNOWN;
        best.seek(coils, orders);
        return best.coilOf(order);
    }

    public int cut() {
        best.seek(coils, orders);
        int made = 0;
        for (int i = 0; i < orders.length; i++) {
            Coil wire = coilAt(best.coilOf(i));
            if (wire == null || orders[i] == null) continue;
            deliver(wire, orders[i]);
            made++;
        }
        for (int i = 0; i < coils.length; i++) {
            if (coils[i] != null && best.uses(i) && coils[i].feet() < settings.shortFeet) throwAway(coils[i]);
        }
        return made;
    }

    public int filled(int order) {
        Order of = orderAt(order);
        if (of == null) return UNKNOWN;
        return of.isFilled ? 1 : 0;
    }

    // ---- notes, accounts

    public int note(int bits, boolean broke) {
        if (!isWithin(bits, 0, 7)) return OUTSIDE;
        return notes.add(bits, broke);
    }

    public int tally(int cause, int what) {
        if (!isCause(cause)) return UNKNOWN;
        return isWithin(what, 0, 3) ? notes.share(cause, what) : OUTSIDE;
    }

    public int by(int cause, int part) {
        if (!isCause(cause) || !isWithin(part, 0, 1)) return LEAST_INT;
        int below = notes.below(cause);
        if (below == 0) return LEAST_INT;
        int above = notes.above(cause);
        return (int) quotient(part == 0 ? above : below, commonDivisor(Math.abs(above), below));
    }

    public int chance(int cause) {
        if (!isCause(cause)) return UNKNOWN;
        return notes.isMoreThanChance(cause) ? 1 : 0;
    }

    public int cause() {
        int found = NONE;
        for (int i = 0; i < CAUSES; i++) {
            if (notes.isMoreThanChance(i) && (found == NONE || notes.isGreater(i, found))) found = i;
        }
        return found;
    }

    public long account(int what) {
        switch (what) {
            case 0: return cameIn;
            case 1: return stuffInCoils();
            case 2: return delivered;
            case 3: return scrapped;
            case 4: return scaled;
            default: return OUTSIDE;
        }
    }

    public int count(int what) {
        switch (what) {
            case 0: return coilCount;
            case 1: return coilsLeft();
            case 2: return orderCount;
            case 3: return ordersFilled();
            case 4: return notes.size;
            case 5: return drawsMade;
            case 6: return firesMade;
            default: return OUTSIDE;
        }
    }

    // ---- what there is under a number: null, if there is none

    private Metal metalAt(int number) {
        return number < 0 || number >= metals.length ? null : metals[number];
    }

    private Puller pullerAt(int number) {
        return number < 0 || number >= pullers.length ? null : pullers[number];
    }

    private Plate plateAt(int number) {
        return number < 0 || number >= plates.length ? null : plates[number];
    }

    private Hole holeAt(int plate, int number) {
        Plate of = plateAt(plate);
        return of == null ? null : of.holeAt(number);
    }

    private Coil coilAt(int number) {
        if (number < 0 || number >= coils.length) return null;
        Coil wire = coils[number];
        return wire == null || wire.isGone() ? null : wire;
    }

    private Order orderAt(int number) {
        return number < 0 || number >= orders.length ? null : orders[number];
    }

    // ---- what changes the mill

    /** The number of the new coil; who calls has looked for room. */
    private int addCoil(Coil wire) {
        if (coilCount < 0 || coilCount >= coils.length) return FULL;
        coils[coilCount] = wire;
        return coilCount++;
    }

    /** A draw that has not been refused. */
    private int pullThrough(Coil wire, Hole through, Puller who) {
        int before = wire.hardness;
        wire.size = through.wide();
        wire.hardness = draft.harder;
        int feet = wire.feet();
        through.wear += (int) ((long) feet * wire.metal.abrade * (100 + before) / 10000);
        int done = Math.max(wire.ready, who.ready) + who.minutesFor(feet);
        wire.ready = done;
        who.ready = done;
        drawsMade++;
        return feet;
    }

    private void throwAway(Coil wire) {
        scrapped += wire.stuff;
        wire.stuff = 0;
    }

    private void deliver(Coil wire, Order order) {
        long stuff = wire.stuffOf(order.feet);
        wire.stuff -= stuff;
        delivered += stuff;
        order.isFilled = true;
    }

    // ---- what is looked up or reckoned

    private int pullOf(Puller who) {
        return who.isWheel ? (int) ((long) who.pull * settings.water / 10) : who.pull;
    }

    /** Fires and draws of the best way, which the route holds then; NONE, UNKNOWN, OUTSIDE. */
    private int seekWay(int coil, int plate, int puller, int low, int high) {
        Coil wire = coilAt(coil);
        Plate with = plateAt(plate);
        Puller who = pullerAt(puller);
        if (wire == null || with == null || who == null) return UNKNOWN;
        if (!isRange(low, high)) return OUTSIDE;
        return route.seek(wire, with, pullOf(who), low, high);
    }

    private long stuffInCoils() {
        long sum = 0;
        for (int i = 0; i < coils.length; i++) {
            if (coils[i] != null) sum += coils[i].stuff;
        }
        return sum;
    }

    private int coilsLeft() {
        int left = 0;
        for (int i = 0; i < coils.length; i++) {
            if (coilAt(i) != null) left++;
        }
        return left;
    }

    private int ordersFilled() {
        int sum = 0;
        for (int i = 0; i < orders.length; i++) {
            if (orders[i] != null && orders[i].isFilled) sum++;
        }
        return sum;
    }

    private static boolean isWithin(int v, int least, int most) {
        return v >= least && v <= most;
    }

    private static boolean isSize(int v) {
        return isWithin(v, LEAST_SIZE, MOST_SIZE);
    }

    private static boolean isRange(int low, int high) {
        return isSize(low) && isSize(high) && low <= high;
    }

    private static boolean isCause(int cause) {
        return isWithin(cause, 0, CAUSES - 1);
    }

    /** A division that can't fail; no divisor here is 0 in any state. */
    private static long quotient(long v, long divisor) {
        return divisor == 0 ? 0 : v / divisor;
    }

    private static int commonDivisor(int one, int two) {
        int a = one;
        int b = two;
        // Euclid's steps on ints are fewer than 64
        for (int i = 0; i < 64 && b != 0; i++) {
            int rest = a % b;
            a = b;
            b = rest;
        }
        return a;
    }

    /** How many ways there are to choose k of n (60 at most, so that no product leaves the long). */
    private static long choices(int n, int k) {
        if (k < 0 || k > n) return 0;
        int few = Math.min(k, n - k);
        long ways = 1;
        for (int i = 0; i < few; i++) ways = ways * (n - i) / (i + 1);
        return ways;
    }

    /** What `set` sets, each within its bounds. */
    private static final class Settings {
        private static final int[] LEAST = {0, 10, 0, 1, 0, 1};
        private static final int[] MOST = {100, 100, 10, 500, 20, 100};

        int friction = 20;
        int safe = 80;
        int water = 10;
        int heat = 60;
        int loss = 2;
        int shortFeet = 5;

        boolean admits(int what, int v) {
            if (what < 0 || what >= LEAST.length || what >= MOST.length) return false;
            return isWithin(v, LEAST[what], MOST[what]);
        }

        int value(int what) {
            switch (what) {
                case 0: return friction;
                case 1: return safe;
                case 2: return water;
                case 3: return heat;
                case 4: return loss;
                default: return shortFeet;
            }
        }

        void change(int what, int v) {
            switch (what) {
                case 0: friction = v; break;
                case 1: safe = v; break;
                case 2: water = v; break;
                case 3: heat = v; break;
                case 4: loss = v; break;
                default: shortFeet = v;
            }
        }
    }

    private static final class Metal {
        final int number;
        int base = 100;
        int gain = 100;
        int limit = 60;
        int abrade = 10;
        int scale = 5;

        Metal(int number) {
            this.number = number;
        }

        long strength(int hardness) {
            return (long) base * (100 + hardness);
        }
    }

    private static final class Puller {
        final boolean isWheel;
        int pull;
        int speed = 10;
        int ready;

        Puller(boolean isWheel) {
            this.isWheel = isWheel;
        }

        int minutesFor(int feet) {
            return (int) quotient((long) feet + speed - 1, speed) + 1;
        }
    }

    private static final class Hole {
        int nominal;
        int wear;
        int reams;

        Hole(int nominal) {
            this.nominal = nominal;
        }

        int wide() {
            return nominal + wear / 1000;
        }

        boolean isSpent() {
            return wide() > nominal + 50;
        }
    }

    private static final class Plate {
        private final Hole[] holes = new Hole[HOLES];
        private int size;

        int bore(int nominal) {
            if (size < 0 || size >= holes.length) return FULL;
            holes[size] = new Hole(nominal);
            return size++;
        }

        Hole holeAt(int number) {
            return number < 0 || number >= holes.length ? null : holes[number];
        }
    }

    private static final class Coil {
        final Metal metal;
        int size;
        int hardness;
        long stuff;
        int joints;
        int ready;
        boolean isBad;

        Coil(Metal metal, int size, long stuff, boolean isBad) {
            this.metal = metal;
            this.size = size;
            this.stuff = stuff;
            this.isBad = isBad;
        }

        long stuffOf(int feet) {
            return (long) size * size * feet;
        }

        int feet() {
            return (int) quotient(stuff, stuffOf(1));
        }

        boolean isGone() {
            return feet() == 0;
        }
    }

    private static final class Order {
        final Metal metal;
        final int low;
        final int high;
        final int feet;
        boolean isFilled;

        Order(Metal metal, int low, int high, int feet) {
            this.metal = metal;
            this.low = low;
            this.high = high;
            this.feet = feet;
        }

        boolean canBeCutFrom(Coil wire) {
            return wire.metal == metal && isWithin(wire.size, low, high) && wire.feet() >= feet;
        }
    }

    /** What one draw asks and bears. One object serves all draws, so that no search makes any. */
    private static final class Draft {
        private final Settings settings;
        int thinner;
        int harder;
        int asked;
        int borne;

        Draft(Settings settings) {
            this.settings = settings;
        }

        /** Of wire like this, but of another size and hardness: a way looks ahead of what the coil is now. */
        void reckon(Coil like, int size, int hardness, int wide) {
            Metal metal = like.metal;
            long before = (long) size * size;
            long behind = (long) wide * wide;
            thinner = 1000 - (int) quotient(1000 * behind, before);
            harder = hardness + metal.gain * thinner / 1000;
            long force = (before - behind) * metal.strength(hardness) / 100;
            asked = (int) (force + force * settings.friction / 100);
            long hold = behind * metal.strength(harder) / 100;
            if (like.joints > 0) hold = hold * 8 / 10;
            borne = (int) (hold * settings.safe / 100);
        }

        /** 0, if the draw may be and that pull can do it; else the first refusal that fits. */
        int refusal(Coil like, int size, int hardness, Hole hole, int pull) {
            int wide = hole.wide();
            if (hole.isSpent() || wide >= size) return NOT;
            reckon(like, size, hardness, wide);
            if (harder > like.metal.limit) return BRITTLE;
            if (asked > borne) return TORN;
            return asked > pull ? WEAK : 0;
        }
    }

    /**
     * The best way. A place is where the wire is: 0 as it came, i + 1 behind hole i; all that counts of a way
     * is its place and hardness. A price is 100 for a fire and 1 for a draw: fewer fires are always cheaper,
     * as no way has a hundred draws (each makes the wire thinner, so it goes through no hole twice).
     * A mark is the least price from a place and the first step of it: the least mark has the first best step.
     */
    private static final class Route {
        private static final int PRICE_OF_FIRE = 100, PRICE_OF_DRAW = 1, NEVER = 100000;
        private static final int MARKS_OF_PRICE = FIRE + 1, OPEN = -1;
        private static final int HARDNESSES = MOST_HARDNESS + 1;
        /** A draw through each hole, a fire ahead of each and behind all: no search goes deeper. */
        private static final int MOST_STEPS = HOLES + HOLES + 1;

        private final Draft draft;
        private final int[] marks = new int[(HOLES + 1) * HARDNESSES];
        private final int[] steps = new int[MOST_STEPS];
        int length;
        private Coil wire;
        private Plate plate;
        private int pull;
        private int low;
        private int high;

        Route(Draft draft) {
            this.draft = draft;
        }

        int stepAt(int i) {
            return i < 0 || i >= length || i >= steps.length ? NONE : steps[i];
        }

        /** 100 times the fires, and the draws; NONE. The steps stay here until the next search. */
        int seek(Coil wire, Plate plate, int pull, int low, int high) {
            this.wire = wire;
            this.plate = plate;
            this.pull = pull;
            this.low = low;
            this.high = high;
            length = 0;
            for (int i = 0; i < marks.length; i++) marks[i] = OPEN;
            int price = priceFrom(0, wire.hardness, 0);
            if (price >= NEVER) return NONE;
            laySteps(wire.hardness, price / PRICE_OF_FIRE + price % PRICE_OF_FIRE);
            return price;
        }

        private void laySteps(int hardnessAtFirst, int wanted) {
            int place = 0;
            int hardness = hardnessAtFirst;
            for (int i = 0; i < wanted && i < steps.length; i++) {
                int spot = place * HARDNESSES + hardness;
                if (spot < 0 || spot >= marks.length) return;
                int next = marks[spot] % MARKS_OF_PRICE;
                steps[i] = next;
                length = i + 1;
                hardness = next == FIRE ? 0 : hardnessBehind(place, hardness, next);
                place = next == FIRE ? place : next + 1;
            }
        }

        private int priceFrom(int place, int hardness, int depth) {
            int spot = place * HARDNESSES + hardness;
            if (depth > MOST_STEPS || spot < 0 || spot >= marks.length) return NEVER;
            if (isWithin(sizeAt(place), low, high)) return 0;
            if (marks[spot] != OPEN) return marks[spot] / MARKS_OF_PRICE;
            int least = NEVER * MARKS_OF_PRICE;
            for (int hole = 0; hole < HOLES; hole++) {
                int harder = hardnessBehind(place, hardness, hole);
                if (harder == NONE) continue;
                int price = priceFrom(hole + 1, harder, depth + 1) + PRICE_OF_DRAW;
                least = Math.min(least, price * MARKS_OF_PRICE + hole);
            }
            if (hardness > 0) {
                int price = priceFrom(place, 0, depth + 1) + PRICE_OF_FIRE;
                least = Math.min(least, price * MARKS_OF_PRICE + FIRE);
            }
            marks[spot] = least;
            return least / MARKS_OF_PRICE;
        }

        private int sizeAt(int place) {
            if (wire == null || plate == null) return 0;
            if (place == 0) return wire.size;
            Hole behind = plate.holeAt(place - 1);
            return behind == null ? 0 : behind.wide();
        }

        /** NONE, if there is no such draw from here. */
        private int hardnessBehind(int place, int hardness, int number) {
            if (wire == null || plate == null) return NONE;
            Hole hole = plate.holeAt(number);
            if (hole == null || draft.refusal(wire, sizeAt(place), hardness, hole, pull) < 0) return NONE;
            return draft.harder;
        }
    }

    /**
     * The best cutting. Sets of orders are masks. A rank tells coils used and then the coil of each order as
     * digits to the base 17 (16 for none), order 0 ahead: of two ranks the lesser is the better cutting.
     */
    private static final class Cutting {
        private static final int SETS = 64, NOBODY = 16, BASE = 17, NEVER = 2147483647;
        private static final int[] DIGITS = {1419857, 83521, 4913, 289, 17, 1};
        private static final int RANK_OF_COIL = 24137569, RANK_OF_NOTHING = 24137568;

        private final int[] feetOf = new int[SETS];
        private final int[] digitsOf = new int[SETS];
        private final int[] ranks = new int[SETS];
        private final int[] nextRanks = new int[SETS];
        int feet;
        private int rank = RANK_OF_NOTHING;

        void seek(Coil[] coils, Order[] orders) {
            measureSets(orders);
            for (int set = 0; set < SETS; set++) ranks[set] = set == 0 ? RANK_OF_NOTHING : NEVER;
            for (int i = 0; i < coils.length; i++) {
                if (coils[i] != null && !coils[i].isGone()) offer(coils[i], i, orders);
            }
            feet = 0;
            rank = RANK_OF_NOTHING;
            for (int set = 1; set < SETS; set++) {
                if (ranks[set] == NEVER || feetOf[set] < feet) continue;
                if (feetOf[set] > feet || ranks[set] < rank) {
                    feet = feetOf[set];
                    rank = ranks[set];
                }
            }
        }

        /** The coil of an order; NONE. */
        int coilOf(int order) {
            if (order < 0 || order >= DIGITS.length) return NONE;
            int digit = (int) quotient(rank, DIGITS[order]) % BASE;
            return digit == NOBODY ? NONE : digit;
        }

        boolean uses(int coil) {
            for (int i = 0; i < DIGITS.length; i++) {
                if (coilOf(i) == coil) return true;
            }
            return false;
        }

        private void measureSets(Order[] orders) {
            for (int set = 0; set < SETS; set++) {
                feetOf[set] = 0;
                digitsOf[set] = 0;
                for (int i = 0; i < orders.length && i < DIGITS.length; i++) {
                    if ((set >> i & 1) == 0) continue;
                    digitsOf[set] += DIGITS[i];
                    if (orders[i] != null) feetOf[set] += orders[i].feet;
                }
            }
        }

        /** Ranks of all sets, if this coil may be used too. */
        private void offer(Coil wire, int number, Order[] orders) {
            int open = openTo(wire, orders);
            if (open == 0) return;
            int feetThere = wire.feet();
            for (int set = 0; set < SETS; set++) nextRanks[set] = ranks[set];
            for (int some = 1; some < SETS; some++) {
                if ((some & ~open) != 0 || feetOf[some] > feetThere) continue;
                giveTo(some, RANK_OF_COIL - (NOBODY - number) * digitsOf[some]);
            }
            for (int set = 0; set < SETS; set++) ranks[set] = nextRanks[set];
        }

        /** These orders from one coil, with all others that could be cut already. */
        private void giveTo(int some, int more) {
            for (int set = some; set < SETS; set++) {
                int others = set ^ some;
                if ((set & some) != some || others < 0 || others >= SETS || ranks[others] == NEVER) continue;
                nextRanks[set] = Math.min(nextRanks[set], ranks[others] + more);
            }
        }

        private static int openTo(Coil wire, Order[] orders) {
            int open = 0;
            for (int i = 0; i < orders.length; i++) {
                Order order = orders[i];
                if (order != null && !order.isFilled && order.canBeCutFrom(wire)) open |= 1 << i;
            }
            return open;
        }
    }

    /** How many notes there are of each kind: the causes as bits, broken or not. */
    private static final class Notes {
        private static final int KINDS = 8;

        private final int[] broken = new int[KINDS];
        private final int[] whole = new int[KINDS];
        int size;

        int add(int bits, boolean broke) {
            if (size >= NOTES) return FULL;
            if (bits < 0 || bits >= KINDS) return OUTSIDE;
            if (broke) broken[bits]++;
            else whole[bits]++;
            return ++size;
        }

        /** a, b, c, d of a cause (what 0 .. 3). */
        int share(int cause, int what) {
            int sum = 0;
            int with = what < 2 ? 1 : 0;
            for (int bits = 0; bits < KINDS; bits++) {
                if ((bits >> cause & 1) == with) sum += what % 2 == 0 ? broken[bits] : whole[bits];
            }
            return sum;
        }

        /** What is above in BY, not yet in lowest terms. */
        int above(int cause) {
            return share(cause, 0) * share(cause, 3) - share(cause, 1) * share(cause, 2);
        }

        /** What is below in BY, not yet in lowest terms; 0, if there is no BY. */
        int below(int cause) {
            return (share(cause, 0) + share(cause, 1)) * (share(cause, 2) + share(cause, 3));
        }

        boolean isGreater(int one, int other) {
            return (long) above(one) * below(other) > (long) above(other) * below(one);
        }

        boolean isMoreThanChance(int cause) {
            int broke = share(cause, 0) + share(cause, 2);
            int with = share(cause, 0) + share(cause, 1);
            int without = size - with;
            long such = 0;
            for (int i = share(cause, 0); i <= with; i++) such += choices(with, i) * choices(without, broke - i);
            return 20 * such <= choices(size, broke);
        }
    }
}
