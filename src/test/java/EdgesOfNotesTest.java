/** Promises 27 to 33 and the terms behind them: the edges of notes, causes and accounts. */
public final class EdgesOfNotesTest {
    private static final int NONE = -1, UNKNOWN = -2, OUTSIDE = -3, NOT = -4, FULL = -8;

    private static final Checks CHECKS = new Checks();

    public static void main(String[] args) {
        bits(); sixtyNotes();
        tallyOf(); tallyWhat(); causesThatAreNot();
        byOfNone(); byInLowestTerms(); byBelowNothing(); byParts();
        chanceOfNone(); aTwentieth(); aTwentiethOfSixty(); nearATwentieth(); aOrMore(); allOrNoneBroke();
        noCause(); theGreatest(); theLeastOfSeveral(); onlyOfThoseMoreThanChance();
        accountWhat(); accountOfAll(); countWhat(); countRefused();
        CHECKS.end();
    }

    private static void says(String sentence) {
        CHECKS.says(sentence);
    }

    private static void due(String call, long got, long want) {
        CHECKS.due(call, got, want);
    }

    private static void add(WireMill x, int many, int bits, boolean broke) {
        for (int i = 0; i < many; i++) x.note(bits, broke);
    }

    /** Notes with a, b, c and d for the cause of that bit, and of no other cause. */
    private static WireMill four(int bit, int a, int b, int c, int d) {
        WireMill x = new WireMill();
        add(x, a, bit, true);
        add(x, b, bit, false);
        add(x, c, 0, true);
        add(x, d, 0, false);
        return x;
    }

    // ---- promise 27

    private static void bits() {
        says("OUTSIDE: bits 0 .. 7");
        WireMill x = new WireMill();
        for (int v : Mills.outside(0, 7)) {
            due("bits " + v, x.note(v, true), OUTSIDE);
            due("bits " + v, x.note(v, false), OUTSIDE);
        }
        due("none came by that", x.count(4), 0);
        for (int i = 0; i < 8; i++) due("bits " + i, x.note(i, true), i + 1);
    }

    private static void sixtyNotes() {
        says("NOTES (60 at most)");
        WireMill x = new WireMill();
        for (int i = 1; i < 61; i++) due("how many", x.note(i % 8, i % 2 == 0), i);
        int[] before = new int[12];
        for (int i = 0; i < 12; i++) before[i] = x.tally(i / 4, i % 4);
        for (int i = 0; i < 8; i++) due("a sixty-first", x.note(i, i % 2 == 0), FULL);
        due("how many", x.count(4), 60);
        for (int i = 0; i < 12; i++) due("tally " + i, x.tally(i / 4, i % 4), before[i]);
    }

    // ---- promise 28

    private static void tallyOf() {
        says("whether the wire was HARD, the HOLE WORN, the rod BAD (bits 1, 2, 4) and whether it BROKE");
        for (int kind = 0; kind < 16; kind++) {
            WireMill x = new WireMill();
            int set = kind % 8;
            boolean broke = kind >= 8;
            x.note(set, broke);
            for (int cause = 0; cause < 3; cause++) {
                boolean with = (set & new int[] {1, 2, 4}[cause]) != 0;
                int where = with ? (broke ? 0 : 1) : (broke ? 2 : 3);
                for (int i = 0; i < 4; i++) due("note " + kind + ", tally " + cause + " " + i, x.tally(cause, i), i == where ? 1 : 0);
            }
        }
    }

    private static void tallyWhat() {
        says("Of a CAUSE: a, b, c, d (what 0 .. 3). OUTSIDE");
        WireMill x = four(2, 1, 2, 3, 4);
        for (int i = 0; i < 4; i++) due("what " + i, x.tally(1, i), i + 1);
        for (int cause = 0; cause < 3; cause++) {
            for (int what : Mills.outside(0, 3)) due("what " + what, x.tally(cause, what), OUTSIDE);
        }
    }

    private static void causesThatAreNot() {
        says("Of a CAUSE (0 HARD, 1 WORN, 2 BAD)");
        WireMill x = four(7, 3, 0, 0, 3);
        for (int cause : Mills.outside(0, 2)) {
            due("tally of " + cause, x.tally(cause, 0), UNKNOWN);
            due("by of " + cause, x.by(cause, 0), Mills.LEAST);
            due("by of " + cause, x.by(cause, 1), Mills.LEAST);
            due("chance of " + cause, x.chance(cause), UNKNOWN);
        }
        for (int cause = 0; cause < 3; cause++) due("chance of " + cause, x.chance(cause), 1);
    }

    // ---- promise 29

    private static void dueBy(String when, WireMill x, int cause, int above, int below) {
        due(when + ", above", x.by(cause, 0), above);
        due(when + ", below", x.by(cause, 1), below);
    }

    private static void byOfNone() {
        says("as a fraction (none, if a + b or c + d is 0)");
        dueBy("no notes", new WireMill(), 0, Mills.LEAST, Mills.LEAST);
        dueBy("a + b is 0", four(1, 0, 0, 1, 1), 0, Mills.LEAST, Mills.LEAST);
        dueBy("c + d is 0", four(1, 1, 1, 0, 0), 0, Mills.LEAST, Mills.LEAST);
        dueBy("only a and c", four(1, 1, 0, 1, 0), 0, 0, 1);
        dueBy("only a and d", four(1, 1, 0, 0, 1), 0, 1, 1);
        dueBy("only b and c", four(1, 0, 1, 1, 0), 0, -1, 1);
        dueBy("only b and d", four(1, 0, 1, 0, 1), 0, 0, 1);
        WireMill x = four(1, 1, 0, 0, 1);
        for (int cause = 1; cause < 3; cause++) dueBy("another cause", x, cause, Mills.LEAST, Mills.LEAST);
    }

    private static void byInLowestTerms() {
        says("BY of a CAUSE in lowest terms");
        dueBy("2 of 4 less 1 of 4", four(1, 2, 2, 1, 3), 0, 1, 4);
        dueBy("3 of 4 less 1 of 4", four(2, 3, 1, 1, 3), 1, 1, 2);
        dueBy("5 of 6 less 1 of 10", four(4, 5, 1, 1, 9), 2, 11, 15);
        dueBy("1 of 29 less 1 of 31", four(4, 1, 28, 1, 30), 2, 2, 899);
        dueBy("15 of 30 less 15 of 30", four(1, 15, 15, 15, 15), 0, 0, 1);
        dueBy("30 of 30 less none of 30", four(1, 30, 0, 0, 30), 0, 1, 1);
        dueBy("1 of 59 less 1 of 1", four(1, 1, 58, 1, 0), 0, -58, 59);
    }

    private static void byBelowNothing() {
        says("what is above (part 0; below 0 as it is)");
        dueBy("1 of 3 less 4 of 6", four(1, 1, 2, 4, 2), 0, -1, 3);
        dueBy("none of 3 less 1 of 7", four(2, 0, 3, 1, 6), 1, -1, 7);
        dueBy("none of 30 less 30 of 30", four(4, 0, 30, 30, 0), 2, -1, 1);
    }

    private static void byParts() {
        says("what is above (part 0), below (1); the least int: OUTSIDE");
        WireMill x = four(1, 2, 2, 1, 3);
        for (int part : Mills.outside(0, 1)) due("part " + part, x.by(0, part), Mills.LEAST);
        dueBy("both parts", x, 0, 1, 4);
    }

    // ---- promise 30

    private static void chanceOfNone() {
        says("It is MORE THAN CHANCE, if ..: without NOTES there is one way, and it is such");
        WireMill x = new WireMill();
        for (int cause = 0; cause < 3; cause++) due("cause " + cause, x.chance(cause), 0);
        WireMill y = four(1, 10, 10, 0, 0);
        due("all with it", y.chance(0), 0);
        due("none with it", y.chance(1), 0);
    }

    private static void aTwentieth() {
        says("not more than a twentieth");
        due("one of 20", four(1, 3, 0, 0, 3).chance(0), 1);
        due("one of 10", four(1, 3, 0, 0, 2).chance(0), 0);
        due("one of 20", four(2, 1, 0, 0, 19).chance(1), 1);
        due("one of 19", four(2, 1, 0, 0, 18).chance(1), 0);
        due("91 of 1820", four(4, 2, 0, 2, 12).chance(2), 1);
        due("78 of 1365", four(4, 2, 0, 2, 11).chance(2), 0);
        due("6 of 120", four(1, 2, 2, 0, 12).chance(0), 1);
        due("8855 of 177100", four(1, 2, 0, 4, 19).chance(0), 1);
    }

    private static void aTwentiethOfSixty() {
        says("not more than a twentieth");
        due("3 of 60", four(1, 1, 2, 0, 57).chance(0), 1);
        due("3 of 59", four(1, 1, 2, 0, 56).chance(0), 0);
        due("1711 of 34220", four(2, 1, 0, 2, 57).chance(1), 1);
        due("1653 of 32509", four(2, 1, 0, 2, 56).chance(1), 0);
        due("57 of 57 broke with it", four(4, 57, 0, 2, 1).chance(2), 1);
        due("56 of 56 broke with it", four(4, 56, 0, 2, 1).chance(2), 0);
    }

    /** The nearest on both sides of those with sixty notes. */
    private static void nearATwentieth() {
        says("not more than a twentieth");
        due("0.04997", four(1, 9, 5, 16, 30).chance(0), 1);
        due("0.04997", four(1, 30, 16, 5, 9).chance(0), 1);
        due("0.05037", four(1, 11, 6, 16, 27).chance(0), 0);
        due("0.05037", four(1, 27, 16, 6, 11).chance(0), 0);
        due("0.0505", four(2, 16, 8, 15, 21).chance(1), 0);
        due("30 of 30", four(4, 30, 0, 0, 30).chance(2), 1);
        due("19 of 30", four(4, 19, 11, 11, 19).chance(2), 1);
        due("18 of 30", four(4, 18, 12, 12, 18).chance(2), 0);
    }

    private static void aOrMore() {
        says("those with a or more of such with the CAUSE");
        // of 10 with it and 10 without, 7 broke: just 5 are 0.146, 6 or more 0.0286, 5 or more 0.175
        due("6 or more", four(1, 6, 4, 1, 9).chance(0), 1);
        due("5 or more", four(1, 5, 5, 2, 8).chance(0), 0);
        // of 12 and 12, 12 broke: just 8 are 0.0906, just 9 are 0.0179; 8 or more 0.11, 9 or more 0.0196
        due("9 or more", four(1, 9, 3, 3, 9).chance(0), 1);
        due("8 or more", four(1, 8, 4, 4, 8).chance(0), 0);
        // just 0 of 30 is nearly nothing, 0 or more is all
        due("0 or more", four(1, 0, 30, 30, 0).chance(0), 0);
        due("far less than by chance", four(1, 1, 29, 29, 1).chance(0), 0);
    }

    private static void allOrNoneBroke() {
        says("as many (a + c) of all NOTES");
        due("none broke", four(1, 0, 30, 0, 30).chance(0), 0);
        due("all broke", four(1, 30, 0, 30, 0).chance(0), 0);
    }

    // ---- promise 31

    private static void noCause() {
        says("THE CAUSE: .. none; NONE");
        due("no notes", new WireMill().cause(), NONE);
        due("not more than chance", four(1, 3, 0, 0, 2).cause(), NONE);
        due("just more than chance", four(1, 3, 0, 0, 3).cause(), 0);
        due("worn", four(2, 3, 0, 0, 3).cause(), 1);
        due("bad", four(4, 3, 0, 0, 3).cause(), 2);
    }

    private static void theGreatest() {
        says("of those MORE THAN CHANCE with the greatest BY");
        // HARD: 6 of 7 less none of 6; WORN: 6 of 6 less none of 7
        WireMill x = four(3, 6, 0, 0, 6);
        x.note(1, false);
        for (int i = 0; i < 2; i++) due("more than chance " + i, x.chance(i), 1);
        due("worn", x.cause(), 1);
        WireMill y = four(6, 6, 0, 0, 6);
        y.note(2, false);
        due("bad", y.cause(), 2);
        WireMill z = four(5, 6, 0, 0, 6);
        z.note(4, false);
        due("hard", z.cause(), 0);
        WireMill u = four(7, 6, 0, 0, 6);
        u.note(5, false);
        due("worn of three", u.cause(), 1);
    }

    private static void theLeastOfSeveral() {
        says("with the greatest BY, the least of several");
        due("all alike", four(7, 3, 0, 0, 3).cause(), 0);
        due("two alike", four(6, 3, 0, 0, 3).cause(), 1);
        due("two alike", four(5, 3, 0, 0, 3).cause(), 0);
        // alike as fractions: 6 of 7 less none of 7 each
        WireMill x = four(3, 6, 0, 0, 6);
        x.note(1, false);
        x.note(2, false);
        dueBy("hard", x, 0, 6, 7);
        dueBy("worn", x, 1, 6, 7);
        due("hard", x.cause(), 0);
    }

    /** WORN has 1 of 1 less 14 of 48, which is more than HARD has, but may well be chance. */
    private static void onlyOfThoseMoreThanChance() {
        says("of those MORE THAN CHANCE");
        WireMill x = four(1, 12, 12, 2, 22);
        x.note(2, true);
        dueBy("hard: 12 of 24 less 3 of 25", x, 0, 19, 50);
        dueBy("worn", x, 1, 17, 24);
        due("hard", x.chance(0), 1);
        due("worn", x.chance(1), 0);
        due("hard, though worn has more", x.cause(), 0);
    }

    // ---- promises 32 and 33

    private static void accountWhat() {
        says("STUFF: IN (what 0), in COILS (1), DELIVERED (2), SCRAP (3), SCALED (4). -3 OUTSIDE");
        WireMill x = Mills.with(100, 10, 90);
        x.coil(0, 90, 20, false);
        x.draw(0, 0, 0, 1);
        x.fire(0);
        x.join(1, 0);
        x.order(0, 90, 90, 10);
        x.cut();
        long[] want = {262000, 164300, 81000, 16200, 500};
        for (int i = 0; i < 5; i++) due("account " + i, x.account(i), want[i]);
        for (int what : Mills.outside(0, 4)) due("account " + what, x.account(what), OUTSIDE);
    }

    private static void accountOfAll() {
        says("all that came IN is in COILS, DELIVERED, SCRAP or SCALED");
        WireMill x = new WireMill();
        for (int i = 0; i < 16; i++) x.coil(0, 1000, 1000, false);
        due("in, of the most", x.account(0), 16000000000L);
        due("in coils", x.account(1), 16000000000L);
        for (int i = 0; i < 8; i++) x.scrap(i);
        due("scrap", x.account(3), 8000000000L);
        for (int i = 0; i < 6; i++) x.order(0, 1000, 1000, 1000);
        due("cut", x.cut(), 6);
        due("delivered", x.account(2), 6000000000L);
        due("in coils", x.account(1), 2000000000L);
        due("in stays", x.account(0), 16000000000L);
        WireMill y = Mills.with(100, 2, 90);
        y.draw(0, 0, 0, 1);
        y.part(0, 1);
        y.fire(0);
        y.fire(1);
        due("a coil fired away", y.account(1) + y.account(3) + y.account(4), y.account(0));
        due("scaled 40 and 59", y.account(4), 99);
        due("scrap", y.account(3), 8060);
    }

    private static void countWhat() {
        says("0 COILS ever, 1 those not GONE, 2 ORDERS, 3 filled ones, 4 NOTES, 5 DRAWS that were made, 6 FIRES. OUTSIDE");
        WireMill x = Mills.with(100, 10, 90);
        for (int i = 0; i < 7; i++) x.coil(0, 90, 20, false);
        x.draw(0, 0, 0, 1);
        x.fire(0);
        x.join(1, 0);
        for (int i = 0; i < 4; i++) x.order(0, 90, 90, i < 3 ? 1 : 1000);
        x.cut();
        add(x, 5, 0, true);
        int[] want = {8, 7, 4, 3, 5, 1, 1};
        for (int i = 0; i < 7; i++) due("count " + i, x.count(i), want[i]);
        for (int what : Mills.outside(0, 6)) due("count " + what, x.count(what), OUTSIDE);
    }

    private static void countRefused() {
        says("5 DRAWS that were made, 6 FIRES: not those that were refused");
        WireMill x = Mills.with(100, 10, 90);
        due("a way", x.way(0, 0, 1, 90, 90), 1);
        due("draws", x.count(5), 0);
        due("a draw", x.draw(0, 0, 0, 1), 12);
        due("none", x.draw(0, 0, 0, 1), NOT);
        x.fire(0);
        due("none", x.fire(0), NOT);
        due("draws", x.count(5), 1);
        due("fires", x.count(6), 1);
    }
}
