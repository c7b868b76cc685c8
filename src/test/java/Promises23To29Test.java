/** Edges of the promises 23 to 29: ways, rounds, ears, prices, shares, the loudest, the kindest. */
public final class Promises23To29Test {
    private static final String LAND = "bay 3 2;bay 1 1;bay 9 1;cry 10 20;cry 5 9;path 0 1 4;term 1;";

    public static void main(String[] args) throws Exception {
        Edges.run(Promises23To29Test.class);
    }

    @Says("WAY: 0 the LENGTH (0: the same BAY), 1 the next BAY (NONE: the same, too); NONE.")
    static void promise23WayTheSameAndNone(Check c) {
        CryGorge x = Check.made(LAND);
        for (int bay = 0; bay < 3; bay++) {
            c.same("the same", x.way(bay, bay, 0), 0);
            c.same("the same", x.way(bay, bay, 1), -1);
        }
        c.same("a path", x.way(1, 0, 0), 4);
        c.same("to the bay 0", x.way(1, 0, 1), 0);
        c.same("none", x.way(0, 2, 0), -1);
        c.same("none", x.way(0, 2, 1), -1);
        c.same("none", x.way(2, 0, 0), -1);
        c.same("none", x.way(2, 0, 1), -1);
    }

    @Says("`int way(int bay, int other, int what) throws NoSuchElementException, IllegalArgumentException`")
    static void promise23WayNoSuchBayGoesAhead(Check c) {
        CryGorge x = Check.made(LAND);
        c.elements("the one", 3, bay -> x.way(bay, 0, 0));
        c.elements("the other", 3, bay -> x.way(0, bay, 0));
        c.range("what", 0, 1, what -> x.way(0, 1, what));
        c.range("what, of the same", 0, 1, what -> x.way(0, 0, what));
        c.noSuch("what, too", () -> x.way(3, 0, 2));
        c.noSuch("what, too", () -> x.way(0, 3, 2));
        c.noSuch("all", () -> x.way(-1, -1, -1));
        c.refused(x, "way(0, 3, 0)", Check.NO_SUCH, () -> x.way(0, 3, 0));
        c.refused(x, "way(0, 0, 2)", Check.ILLEGAL, () -> x.way(0, 0, 2));
        c.noSuch("no bays", () -> new CryGorge().way(0, 0, 0));
    }

    @Says("ROUND. IllegalArgumentException: bits of no BAYS.")
    static void promise24RoundBitsOfNoBays(Check c) {
        CryGorge x = Check.made(LAND);
        c.elements("the bay", 3, bay -> x.round(bay, 0));
        c.range("bays", 0, 7, bays -> x.round(0, bays));
        c.illegal("bits of bays and of none", () -> x.round(0, 9));
        c.illegal("the highest bit", () -> x.round(0, Integer.MIN_VALUE + 1));
        c.noSuch("bits of no bays, too", () -> x.round(3, 8));
        c.noSuch("bits of no bays, too", () -> x.round(-1, -1));
        c.refused(x, "round(0, 8)", Check.ILLEGAL, () -> x.round(0, 8));
        c.refused(x, "round(3, 0)", Check.NO_SUCH, () -> x.round(3, 0));
        c.same("NONE", x.round(0, 7), -1);
        c.same("0", x.round(0, 1), 0);
        CryGorge full = Check.made("bay 0 1;".repeat(6));
        c.same("the last bay", full.round(5, 32), 0);
        c.illegal("one behind the last", () -> full.round(5, 64));
        c.noSuch("no bays", () -> new CryGorge().round(0, 0));
    }

    @Says("EARS, as bits.")
    static void promise25EarsAsBits(Check c) {
        c.same("no bays", new CryGorge().ears(), 0);
        c.same("0 and 2", Check.made(LAND).ears(), 5);
        c.same("all six", Check.made("bay 0 1;".repeat(6)).ears(), 63);
    }

    @Says("PRICES by k (0 to 9), v (0 to 9): 0 how many RESTS, 1 the first (10 times the one's, and the other one's; NONE), 2 what both have by it together (0 without).")
    static void promise26PricesRanges(Check c) {
        CryGorge x = Check.made(LAND);
        c.range("k", 0, 9, k -> x.prices(k, 0, 0));
        c.range("v", 0, 9, v -> x.prices(0, v, 0));
        c.range("what", 0, 2, what -> x.prices(9, 9, what));
        c.refused(x, "prices(10, 0, 0)", Check.ILLEGAL, () -> x.prices(10, 0, 0));
        c.refused(x, "prices(0, 10, 0)", Check.ILLEGAL, () -> x.prices(0, 10, 0));
        c.refused(x, "prices(0, 0, 3)", Check.ILLEGAL, () -> x.prices(0, 0, 3));
        c.same("k 9, v 9", x.prices(9, 9, 0), 10);
        c.same("the first", x.prices(9, 9, 1), 0);
        c.same("together", x.prices(9, 9, 2), 18);
        c.same("k 0, v 0", x.prices(0, 0, 0), 1);
        c.same("together", x.prices(0, 0, 2), 0);
    }

    @Says("What a CRY gets of n (0 to 999) by SHARES among told CRIES (0, if it is none of them). IllegalArgumentException: bits of no CRIES.")
    static void promise27ShareNoSuchCryGoesAhead(Check c) {
        CryGorge x = Check.made(LAND);
        c.elements("the cry", 2, cry -> x.share(cry, 3, 9));
        c.range("cries", 0, 3, cries -> x.share(0, cries, 9));
        c.range("n", 0, 999, n -> x.share(0, 3, n));
        c.range("n, of one that is not told", 0, 999, n -> x.share(0, 2, n));
        c.noSuch("bits of no cries and n, too", () -> x.share(2, 4, 1000));
        c.noSuch("bits of no cries and n, too", () -> x.share(-1, -1, -1));
        c.illegal("bits of cries and of none", () -> x.share(0, 5, 0));
        c.illegal("the highest bit", () -> x.share(0, Integer.MIN_VALUE + 1, 0));
        c.refused(x, "share(0, 4, 0)", Check.ILLEGAL, () -> x.share(0, 4, 0));
        c.refused(x, "share(0, 0, 1000)", Check.ILLEGAL, () -> x.share(0, 0, 1000));
        c.refused(x, "share(2, 0, 0)", Check.NO_SUCH, () -> x.share(2, 0, 0));
        c.noSuch("no cries", () -> new CryGorge().share(0, 0, 0));
    }

    @Says("What a CRY gets of n (0 to 999) by SHARES among told CRIES (0, if it is none of them).")
    static void promise27ShareOfOneThatIsNotTold(Check c) {
        CryGorge x = Check.made(LAND);
        c.same("told", x.share(0, 1, 999), 20);
        c.same("not told", x.share(0, 2, 999), 0);
        c.same("none told", x.share(0, 0, 999), 0);
        c.same("n 0", x.share(0, 3, 0), 0);
        CryGorge full = Check.made("cry 0 99;".repeat(8));
        c.same("more than 5 may be told", full.share(7, 255, 999), 99);
        c.illegal("one behind the last", () -> full.share(7, 256, 0));
    }

    @Says("The loudest CRY that is not OUT (what 0), of alike ones the first, its STRENGTH (1); NONE both: there is none.")
    static void promise28Loudest(Check c) {
        CryGorge x = Check.made("cry 0 1;cry 0 9;cry 0 9;cry 0 8;term 1;");
        c.range("what", 0, 1, x::loudest);
        c.refused(x, "loudest(2)", Check.ILLEGAL, () -> x.loudest(2));
        c.same("of alike ones the first", x.loudest(0), 1);
        c.same("its strength", x.loudest(1), 9);
        // 0 4 4 4
        Check.work(x, "year;out 1;");
        c.same("not out", x.loudest(0), 2);
        c.same("its strength", x.loudest(1), 4);
        Check.work(x, "out 2;out 3;");
        c.same("a gone one", x.loudest(0), 0);
        c.same("its strength", x.loudest(1), 0);
        Check.work(x, "out 0;");
        c.same("all are out", x.loudest(0), -1);
        c.same("all are out", x.loudest(1), -1);
        c.same("no cries", new CryGorge().loudest(0), -1);
        c.same("no cries", new CryGorge().loudest(1), -1);
        CryGorge last = Check.made("cry 0 98;".repeat(7) + "cry 0 99;");
        c.same("the last", last.loudest(0), 7);
        c.same("its strength", last.loudest(1), 99);
    }

    @Says("The BAY in which a CRY, alone and its door as it is now, would lose least in the next YEAR (what 0), of alike ones the first, how much (1); NONE both: there are no BAYS.")
    static void promise29KindestNoSuchCryGoesAhead(Check c) {
        CryGorge x = Check.made(LAND);
        c.elements("the cry", 2, cry -> x.kindest(cry, 0));
        c.range("what", 0, 1, what -> x.kindest(0, what));
        c.noSuch("what, too", () -> x.kindest(2, 2));
        c.noSuch("what, too", () -> x.kindest(-1, -1));
        c.refused(x, "kindest(2, 0)", Check.NO_SUCH, () -> x.kindest(2, 0));
        c.refused(x, "kindest(0, 2)", Check.ILLEGAL, () -> x.kindest(0, 2));
        c.noSuch("no cries", () -> new CryGorge().kindest(0, 0));
        CryGorge none = Check.made("cry 0 9;");
        c.same("no bays", none.kindest(0, 0), -1);
        c.same("no bays", none.kindest(0, 1), -1);
        c.illegal("no bays, and another what", () -> none.kindest(0, 2));
    }

    @Says("The BAY in which a CRY, alone and its door as it is now, would lose least in the next YEAR (what 0), of alike ones the first, how much (1)")
    static void promise29KindestAloneAndByTheDoor(Check c) {
        CryGorge x = Check.made(LAND);
        c.same("the bay 1", x.kindest(0, 0), 1);
        c.same("1", x.kindest(0, 1), 1);
        Check.work(x, "keep 1 1;");
        c.same("alone, though one is there", x.kindest(0, 1), 1);
        c.same("though there is no room", x.kindest(0, 0), 1);
        Check.work(x, "felt 0;");
        c.same("by its door, and of alike ones the first", x.kindest(0, 0), 0);
        c.same("1", x.kindest(0, 1), 1);
        Check.work(x, "bare 0;keep 0 0;");
        c.same("wherever it is", x.kindest(0, 0), 1);
        Check.law(x, "99");
        c.same("no more than it has", x.kindest(1, 1), 9);
        c.same("the first", x.kindest(1, 0), 0);
        Check.law(x, "9-bay");
        c.same("the last bay", x.kindest(0, 0), 2);
        Check.law(x, "0");
        Check.work(x, "year;out 0;");
        Check.law(x, "9-bay");
        c.same("an out one", x.kindest(0, 0), 2);
        c.same("an out one", x.kindest(0, 1), 7);
    }
}
