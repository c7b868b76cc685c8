/** Terms, ==== 3: the edges of INTERVAL, CHORD, WAY, ROUND, EARS, PRICES and SHARES. */
public final class TermSoundsTest {
    public static void main(String[] args) throws Exception {
        Edges.run(TermSoundsTest.class);
    }

    private static void chord(Check c, CryGorge x, int sum, int many, int first, int sure) {
        c.same("chord(" + sum + ", 0)", x.chord(sum, 0), many);
        c.same("chord(" + sum + ", 1)", x.chord(sum, 1), first);
        c.same("chord(" + sum + ", 2)", x.chord(sum, 2), sure);
    }

    private static void way(Check c, CryGorge x, int bay, int other, int length, int next) {
        c.same("way(" + bay + ", " + other + ", 0)", x.way(bay, other, 0), length);
        c.same("way(" + bay + ", " + other + ", 1)", x.way(bay, other, 1), next);
    }

    private static CryGorge bays(int many, String paths) {
        return Check.made("bay 0 1;".repeat(many) + paths);
    }

    private static void prices(Check c, int k, int v, int many, int first, int together) {
        CryGorge x = new CryGorge();
        c.same("prices(" + k + ", " + v + ", 0)", x.prices(k, v, 0), many);
        c.same("prices(" + k + ", " + v + ", 1)", x.prices(k, v, 1), first);
        c.same("prices(" + k + ", " + v + ", 2)", x.prices(k, v, 2), together);
    }

    @Says("INTERVAL of two CRIES: what is left by 12 of how far their PITCHES are apart.")
    static void termIntervalLeftBy12(Check c) {
        int[] pitches = {0, 11, 12, 13, 24, 59, 60, 0};
        int[] due = {0, 11, 0, 1, 0, 11, 0, 0};
        StringBuilder text = new StringBuilder();
        for (int pitch : pitches) {
            text.append("cry ").append(pitch).append(" 1;");
        }
        CryGorge x = Check.made(text.toString());
        for (int cry = 0; cry < 8; cry++) {
            c.same("interval(0, " + cry + ")", x.interval(0, cry), due[cry]);
            c.same("interval(" + cry + ", 0)", x.interval(cry, 0), due[cry]);
            c.same("interval of one and itself", x.interval(cry, cry), 0);
        }
    }

    @Says("CHORD of a sum: sets of CRIES that are not OUT whose STRENGTHS now add up to it: how many, the first (least bits), SURE: CRIES in all of them.")
    static void termChordEmptySetAndSums(Check c) {
        chord(c, new CryGorge(), 0, 1, 0, 0);
        chord(c, new CryGorge(), 1, 0, -1, 0);
        chord(c, new CryGorge(), 792, 0, -1, 0);
        CryGorge x = Check.made("cry 0 1;cry 0 2;cry 0 3;cry 0 4;");
        chord(c, x, 0, 1, 0, 0);
        chord(c, x, 1, 1, 1, 1);
        chord(c, x, 3, 2, 3, 0);
        chord(c, x, 7, 2, 11, 8);
        chord(c, x, 10, 1, 15, 15);
        chord(c, x, 11, 0, -1, 0);
        CryGorge full = Check.made("cry 0 99;".repeat(8));
        chord(c, full, 792, 1, 255, 255);
        chord(c, full, 693, 8, 127, 0);
        chord(c, full, 396, 70, 15, 0);
        chord(c, full, 791, 0, -1, 0);
    }

    @Says("sets of CRIES that are not OUT whose STRENGTHS now add up to it")
    static void termChordOfGoneAndOutOnes(Check c) {
        CryGorge x = Check.made("bay 0 1;cry 0 1;cry 0 8;cry 0 4;term 1;");
        Check.work(x, "keep 2 0;year;");
        // 0 4 4 strong now: a gone one may be in a set or not.
        chord(c, x, 0, 2, 0, 0);
        chord(c, x, 4, 4, 2, 0);
        chord(c, x, 8, 2, 6, 6);
        Check.work(x, "out 0;");
        chord(c, x, 0, 1, 0, 0);
        chord(c, x, 8, 1, 6, 6);
        Check.work(x, "out 2;");
        chord(c, x, 4, 1, 2, 2);
        chord(c, x, 8, 0, -1, 0);
        Check.work(x, "out 1;");
        chord(c, x, 0, 1, 0, 0);
        chord(c, x, 4, 0, -1, 0);
    }

    @Says("WAY of two BAYS: the least LENGTH of paths one behind the other; NONE; the first of these (next BAY the least).")
    static void termWayLeastAndNone(Check c) {
        CryGorge chain = bays(6, "path 0 1 40;path 1 2 40;path 2 3 40;path 3 4 40;path 4 5 40;");
        way(c, chain, 0, 5, 200, 1);
        way(c, chain, 5, 0, 200, 4);
        way(c, chain, 2, 2, 0, -1);
        CryGorge apart = bays(4, "path 0 1 1;path 2 3 1;");
        way(c, apart, 0, 2, -1, -1);
        way(c, apart, 3, 1, -1, -1);
        way(c, apart, 3, 2, 1, 2);
        way(c, bays(1, ""), 0, 0, 0, -1);
        CryGorge round = bays(3, "path 0 1 1;path 1 2 1;path 0 2 3;");
        way(c, round, 0, 2, 2, 1);
        way(c, round, 2, 0, 2, 1);
    }

    @Says("the first of these (next BAY the least)")
    static void termWayNextBayTheLeast(Check c) {
        CryGorge x = bays(4, "path 1 2 4;path 1 0 2;path 0 2 2;path 1 3 1;path 3 2 3;");
        way(c, x, 1, 2, 4, 0);
        way(c, x, 2, 1, 4, 0);
        CryGorge y = bays(4, "path 0 3 9;path 0 2 4;path 2 3 5;path 0 1 8;path 1 3 1;");
        way(c, y, 0, 3, 9, 1);
        way(c, y, 3, 0, 9, 0);
    }

    @Says("ROUND of told BAYS (bits) from one: the least LENGTH of a walk along paths from it past all told ones, in any order, wherever it ends; NONE.")
    static void termRoundFromOnePastAllTold(Check c) {
        CryGorge x = bays(5, "path 0 1 4;path 1 2 6;path 0 3 1;");
        c.same("none told", x.round(2, 0), 0);
        c.same("itself", x.round(2, 4), 0);
        c.same("none told, at a bay without paths", x.round(4, 0), 0);
        c.same("itself, at a bay without paths", x.round(4, 16), 0);
        c.same("no way", x.round(4, 1), -1);
        c.same("no way to one of them", x.round(0, 17 + 2), -1);
        c.same("past one that is not told", x.round(0, 4), 10);
        c.same("all: 3 first, and it ends at 2", x.round(0, 15), 12);
        c.same("all, from the other end", x.round(2, 15), 11);
        c.same("all, from the midst: 4 1 1 4 6 or 6 6 4 1", x.round(1, 15), 16);
        CryGorge full = bays(6, "path 0 1 40;path 1 2 40;path 2 3 40;path 3 4 40;path 4 5 40;");
        c.same("all", full.round(0, 63), 200);
        c.same("all, from the midst", full.round(2, 63), 280);
    }

    @Says("EARS: a keeper at a BAY hears it and all to which a path leads from there: the fewest BAYS by which all are heard, of as few the least bits.")
    static void termEarsFewestAndLeastBits(Check c) {
        c.same("no bays", bays(0, "").ears(), 0);
        c.same("one bay", bays(1, "").ears(), 1);
        c.same("six bays without paths", bays(6, "").ears(), 63);
        c.same("two bays", bays(2, "path 1 0 40;").ears(), 1);
        c.same("a star", bays(6, "path 5 0 1;path 5 1 1;path 5 2 1;path 5 3 1;path 5 4 1;").ears(), 32);
        c.same("a chain of three", bays(3, "path 0 1 1;path 1 2 1;").ears(), 2);
        c.same("a chain of four: 0 and 2", bays(4, "path 0 1 1;path 1 2 1;path 2 3 1;").ears(), 5);
        c.same("a ring of six", bays(6, "path 0 1 1;path 1 2 1;path 2 3 1;path 3 4 1;path 4 5 1;path 5 0 1;").ears(), 9);
        c.same("one apart", bays(4, "path 0 1 1;path 0 2 1;").ears(), 9);
    }

    @Says("PRICES by k, v: two ask 0 to k for a BAY; who asks less has as much as he asks, who asks more has 0; by like prices each has half (cut), and v; RESTS: neither would have more by another price.")
    static void termPricesRests(Check c) {
        prices(c, 0, 0, 1, 0, 0);
        prices(c, 0, 9, 1, 0, 18);
        // By k 1, v 0 nobody can have anything, so all four rest.
        prices(c, 1, 0, 4, 0, 0);
        prices(c, 1, 1, 2, 0, 2);
        // Best against 0 and 1 is any price, against 2 it is 1 or 2.
        prices(c, 2, 0, 7, 0, 0);
        prices(c, 9, 0, 7, 0, 0);
        // Half of 9, cut, and 9 is more than 8.
        prices(c, 9, 9, 10, 0, 18);
    }

    /** Rests counted by the words of the document, in another way than the class does. */
    private static int pricesRests(int k, int v) {
        int many = 0;
        for (int pair = 0; pair < (k + 1) * (k + 1); pair++) {
            int one = pair / (k + 1);
            int other = pair % (k + 1);
            boolean rests = true;
            for (int price = 0; price <= k; price++) {
                rests &= has(price, other, v) <= has(one, other, v) && has(price, one, v) <= has(other, one, v);
            }
            many += rests ? 1 : 0;
        }
        return many;
    }

    private static int has(int asks, int other, int v) {
        return asks == other ? asks / 2 + v : asks < other ? asks : 0;
    }

    @Says("RESTS: neither would have more by another price.")
    static void termPricesAllKAndV(Check c) {
        for (int k = 0; k <= 9; k++) {
            for (int v = 0; v <= 9; v++) {
                // Both at 0 rest always, as who asks more has 0.
                prices(c, k, v, pricesRests(k, v), 0, 2 * v);
            }
        }
    }

    @Says("SHARES of n among told CRIES (bits) by STRENGTH now: levelled: no more than that each, no more than a bound, the greatest by which no more than n are given (all, if they are no more).")
    static void termSharesLevelled(Check c) {
        CryGorge x = Check.made("cry 0 20;cry 0 40;cry 0 9;cry 0 30;");
        int[] all = {20, 40, 9, 30};
        for (int n : new int[] {99, 100, 999}) {
            for (int cry = 0; cry < 4; cry++) {
                c.same("share(" + cry + ", 15, " + n + ")", x.share(cry, 15, n), all[cry]);
            }
        }
        c.same("one less than all", x.share(1, 15, 98), 39);
        c.same("and who has less has it all", x.share(3, 15, 98), 30);
        c.same("0", x.share(1, 15, 0), 0);
        c.same("3 among 4", x.share(1, 15, 3), 0);
        c.same("4 among 4", x.share(1, 15, 4), 1);
        c.same("7 among 4", x.share(1, 15, 7), 1);
        c.same("8 among 4", x.share(1, 15, 8), 2);
        c.same("36 among 4", x.share(1, 15, 36), 9);
        c.same("38 among 4: 9, and 9 of 29", x.share(1, 15, 38), 9);
        c.same("39 among 4: 9, and 10 of 30", x.share(1, 15, 39), 10);
        c.same("told alone", x.share(1, 2, 39), 39);
        c.same("told alone", x.share(1, 2, 40), 40);
        c.same("told alone", x.share(1, 2, 41), 40);
        CryGorge full = Check.made("cry 0 99;".repeat(8));
        c.same("792 of 792", full.share(7, 255, 792), 99);
        c.same("791 of 792", full.share(7, 255, 791), 98);
    }

    @Says("SHARES of n among told CRIES (bits) by STRENGTH now")
    static void termSharesByStrengthNow(Check c) {
        CryGorge x = Check.made("bay 0 1;cry 0 1;cry 0 40;cry 0 40;term 1;");
        Check.work(x, "keep 1 0;year;");
        // 0 40 20 strong now
        c.same("a gone one", x.share(0, 7, 999), 0);
        c.same("takes nothing from others", x.share(1, 7, 50), 30);
        c.same("20 of 20", x.share(2, 7, 50), 20);
        Check.work(x, "out 1;");
        c.same("an out one, too", x.share(1, 7, 50), 30);
        c.same("none told", x.share(1, 0, 999), 0);
        c.same("not told", x.share(1, 5, 999), 0);
    }
}
