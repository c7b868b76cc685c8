/** Edges of the promises 16 to 22: plans, guesses, intervals, chords. */
public final class Promises16To22Test {
    private static final String LAND = "bay 3 2;bay 1 1;cry 10 20;cry 22 9;cry 7 1;";

    public static void main(String[] args) throws Exception {
        Edges.run(Promises16To22Test.class);
    }

    @Says("PLAN: what they lose. IllegalArgumentException: bits of no CRIES, more than 5 (so below).")
    static void promise16PlanBitsOfNoCries(Check c) {
        CryGorge x = Check.made(LAND);
        c.range("cries", 0, 7, x::plan);
        c.illegal("bits of cries and of none", () -> x.plan(9));
        c.illegal("the highest bit", () -> x.plan(Integer.MIN_VALUE + 1));
        c.refused(x, "plan(8)", Check.ILLEGAL, () -> x.plan(8));
        CryGorge empty = new CryGorge();
        c.same("none of none", empty.plan(0), 0);
        c.illegal("one of none", () -> empty.plan(1));
        CryGorge full = Check.made("bay 0 4;bay 0 4;" + "cry 0 9;".repeat(8));
        c.same("the last", full.plan(128), 0);
        c.illegal("one behind the last", () -> full.plan(256));
    }

    @Says("PLAN: what they lose. IllegalArgumentException: bits of no CRIES, more than 5 (so below).")
    static void promise16PlanMoreThan5(Check c) {
        CryGorge x = Check.made("bay 0 4;bay 0 4;" + "cry 0 9;".repeat(8));
        int refused = 0;
        for (int cries = 0; cries < 256; cries++) {
            int told = cries;
            boolean tooMany = Integer.bitCount(cries) > 5;
            refused += tooMany ? 1 : 0;
            c.same("plan(" + cries + ") is refused", Check.outcome(() -> x.plan(told)) == Check.ILLEGAL ? 1 : 0, tooMany ? 1 : 0);
        }
        c.same("status(1)", x.status(1), refused);
        c.same("28 and 8 and 1 of them", refused, 37);
    }

    @Says("PLAN: what they lose.")
    static void promise16PlanNone(Check c) {
        CryGorge x = Check.made(LAND + "cry 0 5;");
        c.same("3 of 3, of which one has no more than 1", x.plan(7), 4 + 1 + 1);
        c.same("4 of 3", x.plan(15), -1);
        c.same("no bays", Check.made("cry 0 1;").plan(1), -1);
    }

    @Says("The BAY of a CRY by PLAN; NONE: it is not told, or there is no way.")
    static void promise17PlannedNone(Check c) {
        CryGorge x = Check.made(LAND + "cry 0 5;");
        c.same("alone", x.planned(8, 3), 1);
        c.same("not told", x.planned(8, 0), -1);
        c.same("none told", x.planned(0, 0), -1);
        for (int cry = 0; cry < 4; cry++) {
            c.same("no way", x.planned(15, cry), -1);
        }
        c.same("no bays", Check.made("cry 0 1;").planned(1, 0), -1);
        // 4 and 1 in the bay 0, 1 in the bay 1; the cry 1 there and the cry 3 here would be as good, but come later.
        c.same("of three", x.planned(14, 1), 0);
        c.same("of three", x.planned(14, 2), 0);
        c.same("of three", x.planned(14, 3), 1);
    }

    @Says("NoSuchElementException: no such BAY, CRY (so below, ahead of others).")
    static void promise17PlannedNoSuchCryGoesAhead(Check c) {
        CryGorge x = Check.made(LAND);
        c.elements("the cry", 3, cry -> x.planned(7, cry));
        c.range("cries", 0, 7, cries -> x.planned(cries, 0));
        c.noSuch("bits of no cries, too", () -> x.planned(8, 3));
        c.noSuch("bits of no cries, too", () -> x.planned(-1, -1));
        c.refused(x, "planned(8, 0)", Check.ILLEGAL, () -> x.planned(8, 0));
        c.refused(x, "planned(0, 3)", Check.NO_SUCH, () -> x.planned(0, 3));
        CryGorge full = Check.made("bay 0 4;bay 0 4;" + "cry 0 9;".repeat(8));
        c.illegal("6 of them", () -> full.planned(63, 7));
        c.noSuch("6 of them, and no such cry", () -> full.planned(63, 8));
    }

    @Says("WHOSE: 0 how many pairs, 1 the first (10 times the CRY, and the BAY; NONE).")
    static void promise18Whose(Check c) {
        CryGorge x = Check.made(LAND);
        c.range("what", 0, 1, x::whose);
        c.refused(x, "whose(2)", Check.ILLEGAL, () -> x.whose(2));
        c.same("all", x.whose(0), 6);
        c.same("the first", x.whose(1), 0);
        Check.heard(x, "1 0;");
        c.same("the last cry alone", x.whose(0), 2);
        c.same("the first", x.whose(1), 20);
        Check.heard(x, "0 2;");
        c.same("none", x.whose(0), 0);
        c.same("NONE", x.whose(1), -1);
        CryGorge last = Check.made("bay 2 1;".repeat(5) + "bay 1 1;" + "cry 0 9;".repeat(7) + "cry 0 30;");
        Check.heard(last, "1 29;");
        c.same("the last of all", last.whose(1), 75);
        c.same("one", last.whose(0), 1);
    }

    @Says("LISTEN: 0 the AGE, 1 how many pairs are left at the worst.")
    static void promise19Listen(Check c) {
        CryGorge x = Check.made(LAND);
        c.range("what", 0, 1, x::listen);
        c.refused(x, "listen(2)", Check.ILLEGAL, () -> x.listen(2));
        // At age 0 two by two are alike; from age 1 on the two of the cry 2 are gone.
        c.same("the age", x.listen(0), 0);
        c.same("at the worst", x.listen(1), 2);
        Check.heard(x, "0 20;");
        c.same("the age", x.listen(0), 1);
        c.same("at the worst", x.listen(1), 1);
        Check.heard(x, "0 2;");
        c.same("the age", x.listen(0), 1);
        c.same("none is left", x.listen(1), 0);
    }

    @Says("`int interval(int cry, int other) throws NoSuchElementException`: INTERVAL.")
    static void promise20IntervalNoSuchCry(Check c) {
        CryGorge x = Check.made(LAND);
        c.elements("the one", 3, cry -> x.interval(cry, 0));
        c.elements("the other", 3, cry -> x.interval(0, cry));
        c.noSuch("both", () -> x.interval(3, 3));
        c.noSuch("both", () -> x.interval(-1, -1));
        c.refused(x, "interval(0, 3)", Check.NO_SUCH, () -> x.interval(0, 3));
        c.same("12 apart", x.interval(0, 1), 0);
        c.same("15 apart", x.interval(2, 1), 3);
    }

    @Says("Pairs of unlike CRIES of such INTERVAL (0 to 11): 0 how many, 1 the first (10 times the lesser, and the other one; NONE).")
    static void promise21PairsRanges(Check c) {
        CryGorge x = Check.made(LAND);
        c.range("interval", 0, 11, interval -> x.pairs(interval, 0));
        c.range("interval", 0, 11, interval -> x.pairs(interval, 1));
        c.range("what", 0, 1, what -> x.pairs(0, what));
        c.refused(x, "pairs(12, 0)", Check.ILLEGAL, () -> x.pairs(12, 0));
        c.refused(x, "pairs(0, 2)", Check.ILLEGAL, () -> x.pairs(0, 2));
    }

    @Says("Pairs of unlike CRIES of such INTERVAL (0 to 11): 0 how many, 1 the first (10 times the lesser, and the other one; NONE).")
    static void promise21PairsOfUnlikeCries(Check c) {
        CryGorge x = Check.made("cry 0 1;cry 11 1;cry 60 1;cry 59 1;");
        c.same("60 and 0", x.pairs(0, 0), 2);
        c.same("0 and 2", x.pairs(0, 1), 2);
        c.same("11 and 59 apart", x.pairs(11, 0), 2);
        c.same("0 and 1", x.pairs(11, 1), 1);
        c.same("1 apart, and 49", x.pairs(1, 0), 2);
        c.same("the first", x.pairs(1, 1), 12);
        c.same("none", x.pairs(6, 0), 0);
        c.same("NONE", x.pairs(6, 1), -1);
        CryGorge one = Check.made("cry 0 1;");
        c.same("no cry with itself", one.pairs(0, 0), 0);
        c.same("NONE", one.pairs(0, 1), -1);
        CryGorge full = Check.made("cry 7 1;".repeat(8));
        c.same("each pair once", full.pairs(0, 0), 28);
        c.same("the first", full.pairs(0, 1), 1);
        CryGorge last = Check.made("cry 0 1;cry 1 1;cry 2 1;cry 3 1;cry 4 1;cry 5 1;cry 26 1;cry 35 1;");
        c.same("9, 21 and 33 apart", last.pairs(9, 0), 3);
        c.same("2 and 35", last.pairs(9, 1), 27);
        CryGorge out = Check.made("cry 0 1;cry 0 1;term 1;");
        Check.work(out, "year;out 0;");
        c.same("out and gone ones, too", out.pairs(0, 0), 1);
    }

    @Says("CHORD of a sum (0 to 792): 0 how many, 1 the first (NONE), 2 SURE (bits; 0 without).")
    static void promise22ChordRanges(Check c) {
        CryGorge x = Check.made(LAND);
        for (int what = 0; what <= 2; what++) {
            int asked = what;
            c.range("sum", 0, 792, sum -> x.chord(sum, asked));
        }
        c.range("what", 0, 2, what -> x.chord(0, what));
        c.refused(x, "chord(793, 0)", Check.ILLEGAL, () -> x.chord(793, 0));
        c.refused(x, "chord(0, 3)", Check.ILLEGAL, () -> x.chord(0, 3));
    }

    @Says("CHORD of a sum (0 to 792): 0 how many, 1 the first (NONE), 2 SURE (bits; 0 without).")
    static void promise22ChordNone(Check c) {
        CryGorge x = Check.made(LAND);
        c.same("how many", x.chord(792, 0), 0);
        c.same("NONE", x.chord(792, 1), -1);
        c.same("none is sure", x.chord(792, 2), 0);
        c.same("the empty set", x.chord(0, 1), 0);
        c.same("all", x.chord(30, 1), 7);
        c.same("all are sure", x.chord(30, 2), 7);
    }
}
