/** Mills that tests begin with. */
final class Mills {
    /** The most that a puller may have. */
    static final int PULL = 100000000;
    /** What most often names nothing and lies outside of all bounds. */
    static final int LEAST = Integer.MIN_VALUE, MOST = Integer.MAX_VALUE;

    private static final int[] DOWN_TO_127 = {708, 501, 355, 252, 179, 127};

    private Mills() { }

    /** Puller 1 can all at 100 feet a minute; coil 0 of metal 0, which is as at first; these holes in plate 0. */
    static WireMill with(int size, int feet, int... holes) {
        WireMill x = new WireMill();
        x.puller(1, PULL, 100);
        x.coil(0, size, feet, false);
        for (int nominal : holes) x.hole(0, nominal);
        return x;
    }

    /** As above, but a draw of metal 0 asks just S S - W W and bears just W W, hardens nothing and wears nothing. */
    static WireMill plain(int size, int feet, int... holes) {
        WireMill x = with(size, feet, holes);
        x.set(0, 0);
        x.set(1, 100);
        x.metal(0, 1, 0, 100, 0, 0);
        return x;
    }

    /** A plain mill whose coil 0 is 127 thick and has 62000 feet; plate 3 has the holes through which it went. */
    static WireMill longWire(int... holes) {
        WireMill x = plain(1000, 1000, holes);
        for (int nominal : DOWN_TO_127) x.draw(0, 3, x.hole(3, nominal), 1);
        return x;
    }

    /** A plain mill whose hole 0 of plate 0, 99 at first, has this much wear (1 .. 51000). */
    static WireMill worn(int wear) {
        WireMill x = longWire(99);
        // a foot of 127 is 16129 by 9801 feet of 99; two or three feet of 99 wear by one, if abrade is 50
        x.part(0, (2 * wear * 9801 + 16128) / 16129);
        x.metal(0, 1, 0, 100, 50, 0);
        x.draw(0, 0, 0, 1);
        x.metal(0, 1, 0, 100, 0, 0);
        return x;
    }

    /** Just outside of low .. high on both sides, and as far outside as can be. */
    static int[] outside(int low, int high) {
        return new int[] {low - 1, high + 1, LEAST, MOST};
    }
}
