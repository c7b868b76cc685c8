/** Edges of the promises 8 to 15: undoing, what is told, the law asked, years asked. */
public final class Promises08To15Test {
    private static final String LAND = "bay 3 2;bay 1 1;cry 10 20;cry 5 9;cry 7 1;path 0 1 4;term 2;felt 2;";

    public static void main(String[] args) throws Exception {
        Edges.run(Promises08To15Test.class);
    }

    @Says("The latest WORK that was done is undone: how many are left; -1: there is none.")
    static void promise08UndoNoneThere(Check c) {
        CryGorge x = new CryGorge();
        c.same("undo()", x.undo(), -1);
        c.same("gorge", Check.gorge(x, LAND), 3);
        String all = Look.all(x);
        c.same("undo()", x.undo(), -1);
        c.alike("nothing is changed", Look.all(x), all);
        c.same("a work with a fault", Check.work(x, "year;x"), -9);
        c.same("undo()", x.undo(), -1);
    }

    @Says("The latest WORK that was done is undone: how many are left; -1: there is none.")
    static void promise08Undo16OneByOne(Check c) {
        CryGorge x = worked(16);
        for (int left = 15; left >= 0; left--) {
            c.same("undo()", x.undo(), left);
            c.alike("as ahead of it", Look.keeping(x), Look.keeping(worked(left)));
            c.same("count(2)", x.count(2), left);
            c.same("told(9)", x.told(9), 0);
        }
        c.same("undo()", x.undo(), -1);
    }

    /** An object with so many works of its own, of which some do nothing. */
    private static CryGorge worked(int works) {
        String[] texts = {"keep 0 0;", "", "felt 1;", "year;", "loose 1;", "fill 1 30;keep 2 1;", "out 0;", "year;"};
        CryGorge x = Check.made(LAND);
        for (int work = 0; work < works; work++) {
            Check.work(x, texts[work % 8]);
        }
        return x;
    }

    @Says("The latest WORK that was done is undone: how many are left; -1: there is none.")
    static void promise08UndoLeavesLawAndHeard(Check c) {
        CryGorge x = Check.made(LAND);
        Check.work(x, "keep 0 0;");
        Check.law(x, "6");
        Check.heard(x, "0 1;");
        Check.feed(x, "term 9;");
        c.same("undo()", x.undo(), 0);
        c.same("the law", x.would(0, 0, 0, 0, 0, 0, 0, 0), 6);
        c.same("what is heard", x.told(8), 1);
        c.same("the tape", x.count(1), 20);
        c.same("the cry is loose", x.cry(0, 3), -1);
    }

    @Says("0 BAYS, 1 CRIES, 2 the YEAR, 3 the term, 4 felt that is left, 5 KEPT ones (bits), 6 OUT ones (bits), 7 GONE ones (bits)")
    static void promise09ToldEach(Check c) {
        CryGorge x = Check.made(LAND);
        Check.heard(x, "0 1;1 1;2 1;");
        c.works(x, "keep 1 1;felt 0;loose 0;year;year;out 0;out 0;", 5, 2);
        // 20 10 5 and out; 9 8 7 kept; 1 0 0 loose.
        int[] due = {2, 3, 2, 2, 1, 2, 1, 4, 3, 2, 5 + 7};
        for (int what = 0; what <= 10; what++) {
            c.same("told(" + what + ")", x.told(what), due[what]);
        }
        CryGorge full = Check.made("bay 0 4;".repeat(6) + "cry 0 99;".repeat(8) + "term 40;felt 9;");
        c.same("bays", full.told(0), 6);
        c.same("cries", full.told(1), 8);
        c.same("all together", full.told(10), 792);
        c.works(full, "keep 0 0;keep 1 1;keep 2 2;keep 3 3;keep 4 4;keep 5 5;keep 6 0;keep 7 1;", 8, 0);
        c.same("all are kept", full.told(5), 255);
    }

    @Says("7 GONE ones (bits), 8 lines of HEARD, 9 STEPS REFUSED by the latest WORK (0 ahead of any, behind undo(), restore()), 10 STRENGTH of all together.")
    static void promise09ToldLinesAndStrengthOfAll(Check c) {
        CryGorge x = new CryGorge();
        c.same("no line", x.told(8), 0);
        c.same("no cries", x.told(10), 0);
        Check.heard(x, "0 1;1 1;2 1;3 1;4 1;5 1;");
        c.same("six lines", x.told(8), 6);
        Check.gorge(x, "cry 0 99;".repeat(8) + "term 1;");
        c.same("no line", x.told(8), 0);
        c.same("the most", x.told(10), 792);
        Check.work(x, "again 7[year;];");
        c.same("all are gone", x.told(7), 255);
        c.same("nothing is left", x.told(10), 0);
        Check.work(x, "fill 0 9;out 0;fill 1 1;");
        c.same("an out one, too", x.told(10), 10);
        c.same("all but two are gone", x.told(7), 252);
        c.same("told(6)", x.told(6), 1);
    }

    @Says("IllegalArgumentException: another what (so below).")
    static void promise09ToldAnotherWhat(Check c) {
        CryGorge x = Check.made(LAND);
        c.range("told", 0, 10, x::told);
        CryGorge empty = new CryGorge();
        c.range("told", 0, 10, empty::told);
        c.refused(x, "told(11)", Check.ILLEGAL, () -> x.told(11));
    }

    @Says("9 STEPS REFUSED by the latest WORK (0 ahead of any, behind undo(), restore())")
    static void promise09ToldStepsRefused(Check c) {
        CryGorge x = Check.made(LAND);
        c.same("ahead of any", x.told(9), 0);
        c.works(x, "loose 0;loose 0;", 0, 2);
        c.works(x, "year;", 1, 0);
        c.works(x, "loose 0;year;", 1, 1);
        c.same("undo()", x.undo(), 2);
        c.same("behind undo()", x.told(9), 0);
        c.works(x, "loose 0;", 0, 1);
        c.same("image()", x.image(), 1);
        c.same("behind image()", x.told(9), 1);
        c.same("restore()", x.restore(), 0);
        c.same("behind restore()", x.told(9), 0);
        c.works(x, "loose 0;again 1[];", 0, 1);
        c.same("a fault", Check.work(x, "loose 0;x"), -9);
        c.same("behind a fault", x.told(9), 1);
        c.same("gorge", Check.gorge(x, LAND), 3);
        c.same("ahead of any", x.told(9), 0);
    }

    @Says("Of a BAY: 0 F, 1 W, 2 CRIES that are KEPT there (bits), 3 1 its door is felted, 0 not, 4 BAYS to which a path leads (bits).")
    static void promise10BayEach(Check c) {
        CryGorge x = Check.made("bay 0 1;".repeat(5) + "bay 20 4;" + "cry 0 1;".repeat(8) + "path 5 0 1;path 4 5 1;");
        c.works(x, "keep 7 5;keep 0 5;keep 4 5;keep 3 5;felt 5;", 5, 0);
        int[] due = {20, 4, 128 + 16 + 8 + 1, 1, 17};
        int[] first = {0, 1, 0, 0, 32};
        for (int what = 0; what <= 4; what++) {
            c.same("bay(5, " + what + ")", x.bay(5, what), due[what]);
            c.same("bay(0, " + what + ")", x.bay(0, what), first[what]);
        }
        c.same("no paths", x.bay(1, 4), 0);
    }

    @Says("NoSuchElementException: no such BAY, CRY (so below, ahead of others).")
    static void promise10BayNoSuchBayGoesAhead(Check c) {
        CryGorge x = Check.made(LAND);
        c.elements("bay", 2, bay -> x.bay(bay, 0));
        c.range("what of a bay", 0, 4, what -> x.bay(1, what));
        c.noSuch("bay(2, 5)", () -> x.bay(2, 5));
        c.noSuch("bay(-1, -1)", () -> x.bay(-1, -1));
        c.refused(x, "bay(2, 0)", Check.NO_SUCH, () -> x.bay(2, 0));
        c.refused(x, "bay(0, 5)", Check.ILLEGAL, () -> x.bay(0, 5));
        c.noSuch("bay(0, 0) of no bays", () -> new CryGorge().bay(0, 0));
    }

    @Says("Of a CRY: 0 P, 1 STRENGTH now, 2 AGE, 3 the BAY (NONE: LOOSE, -2: OUT), 4 what it loses in the next YEAR (0: OUT), 5 STRENGTH as told.")
    static void promise11CryEach(Check c) {
        CryGorge x = Check.made(LAND);
        c.works(x, "keep 0 0;fill 0 10;year;year;out 1;", 5, 0);
        int[] kept = {10, 24, 2, 0, 3, 20};
        int[] out = {5, 2, 2, -2, 0, 9};
        int[] loose = {7, 0, 2, -1, 0, 1};
        for (int what = 0; what <= 5; what++) {
            c.same("cry(0, " + what + ")", x.cry(0, what), kept[what]);
            c.same("cry(1, " + what + ")", x.cry(1, what), out[what]);
            c.same("cry(2, " + what + ")", x.cry(2, what), loose[what]);
        }
    }

    @Says("4 what it loses in the next YEAR (0: OUT)")
    static void promise11CryWhatItLoses(Check c) {
        CryGorge x = Check.made("bay 20 4;cry 0 19;cry 0 21;cry 0 1;cry 0 2;");
        c.same("1, loose", x.cry(2, 4), 1);
        c.works(x, "keep 0 0;", 1, 0);
        c.same("no more than it has", x.cry(0, 4), 19);
        c.works(x, "keep 1 0;", 1, 0);
        c.same("20 and a mate", x.cry(1, 4), 21);
        c.works(x, "loose 0;", 1, 0);
        c.same("20", x.cry(1, 4), 20);
        for (int cry = 0; cry < 4; cry++) {
            int before = x.cry(cry, 1);
            int loses = x.cry(cry, 4);
            c.works(x, "year;", 1, 0);
            c.same("so it is", x.cry(cry, 1), before - loses);
            x.undo();
        }
    }

    @Says("NoSuchElementException: no such BAY, CRY (so below, ahead of others).")
    static void promise11CryNoSuchCryGoesAhead(Check c) {
        CryGorge x = Check.made(LAND);
        c.elements("cry", 3, cry -> x.cry(cry, 0));
        c.range("what of a cry", 0, 5, what -> x.cry(2, what));
        c.noSuch("cry(3, 6)", () -> x.cry(3, 6));
        c.noSuch("cry(-1, -1)", () -> x.cry(-1, -1));
        c.refused(x, "cry(3, 0)", Check.NO_SUCH, () -> x.cry(3, 0));
        c.refused(x, "cry(0, 6)", Check.ILLEGAL, () -> x.cry(0, 6));
        c.noSuch("cry(0, 0) of no cries", () -> new CryGorge().cry(0, 0));
    }

    @Says("FADES by the LAW for such fade (0 to 20), mates (0 to 3), felt (0, 1), strength (0 to 99), pitch (0 to 60), age (0 to 400), bay (0 to 5), year (0 to 300).")
    static void promise12WouldRanges(Check c) {
        CryGorge x = new CryGorge();
        c.range("fade", 0, 20, n -> x.would(n, 0, 0, 0, 0, 0, 0, 0));
        c.range("mates", 0, 3, n -> x.would(0, n, 0, 0, 0, 0, 0, 0));
        c.range("felt", 0, 1, n -> x.would(0, 0, n, 0, 0, 0, 0, 0));
        c.range("strength", 0, 99, n -> x.would(0, 0, 0, n, 0, 0, 0, 0));
        c.range("pitch", 0, 60, n -> x.would(0, 0, 0, 0, n, 0, 0, 0));
        c.range("age", 0, 400, n -> x.would(0, 0, 0, 0, 0, n, 0, 0));
        c.range("bay", 0, 5, n -> x.would(0, 0, 0, 0, 0, 0, n, 0));
        c.range("year", 0, 300, n -> x.would(0, 0, 0, 0, 0, 0, 0, n));
        c.same("status(1)", x.status(1), 32);
        c.same("status(0)", x.status(0), 0);
        c.refused(x, "would", Check.ILLEGAL, () -> x.would(21, 0, 0, 0, 0, 0, 0, 0));
    }

    @Says("FADES by the LAW for such fade (0 to 20)")
    static void promise12WouldWhateverTheGorgeIs(Check c) {
        CryGorge x = Check.made("bay 1 1;cry 0 9;");
        Check.work(x, "keep 0 0;felt 0;year;");
        c.same("a bay that is not told", x.would(20, 3, 1, 0, 0, 0, 5, 0), 21);
        Check.law(x, "fade*100+bay");
        c.same("99 at most", x.would(20, 0, 0, 0, 0, 0, 5, 0), 99);
        c.same("more than its strength", x.would(20, 0, 0, 3, 0, 0, 5, 0), 99);
        Check.law(x, "strength-90+bay");
        c.same("0 at least", x.would(0, 0, 0, 0, 0, 0, 5, 0), 0);
        c.same("9", x.would(0, 0, 0, 99, 0, 0, 0, 0), 9);
    }

    @Says("In n YEARS (0 to 99), nothing being done: 0 STRENGTH of all together, 1 GONE ones (bits).")
    static void promise13AheadRanges(Check c) {
        CryGorge x = Check.made(LAND);
        c.range("n", 0, 99, n -> x.ahead(n, 0));
        c.range("n", 0, 99, n -> x.ahead(n, 1));
        c.range("what", 0, 1, what -> x.ahead(0, what));
        c.refused(x, "ahead(100, 0)", Check.ILLEGAL, () -> x.ahead(100, 0));
        c.refused(x, "ahead(0, 2)", Check.ILLEGAL, () -> x.ahead(0, 2));
    }

    @Says("In n YEARS (0 to 99), nothing being done: 0 STRENGTH of all together, 1 GONE ones (bits).")
    static void promise13AheadInNYears(Check c) {
        CryGorge x = Check.made("bay 1 1;bay 0 1;cry 0 99;cry 0 98;cry 0 3;cry 0 5;term 1;");
        Check.work(x, "keep 0 0;keep 1 1;year;out 2;");
        // 98 kept by 1, 98 kept by 0, 1 out, 2 loose
        c.same("now", x.ahead(0, 0), 98 + 98 + 1 + 2);
        c.same("in a year", x.ahead(1, 0), 97 + 98 + 1 + 1);
        c.same("in 97", x.ahead(97, 0), 1 + 98 + 1);
        c.same("in 98", x.ahead(98, 0), 0 + 98 + 1);
        c.same("in 99", x.ahead(99, 0), 0 + 98 + 1);
        c.same("gone now", x.ahead(0, 1), 0);
        c.same("gone in 2", x.ahead(2, 1), 8);
        c.same("gone in 97", x.ahead(97, 1), 8);
        c.same("gone in 98", x.ahead(98, 1), 9);
        c.same("gone in 99", x.ahead(99, 1), 9);
    }

    @Says("In n YEARS (0 to 99), nothing being done")
    static void promise13AheadByTheAgeAndTheYearThatAreNow(Check c) {
        CryGorge x = Check.made("bay 0 1;cry 0 50;term 9;");
        c.same("work", Check.work(x, "keep 0 0;year;year;year;"), 4);
        c.same("the law", Check.law(x, "age*2"), 1);
        for (int asked = 0; asked < 2; asked++) {
            // 6 and 8, by the ages 3 and 4, as often as it is asked
            c.same("ahead(1, 0)", x.ahead(1, 0), 44);
            c.same("ahead(2, 0)", x.ahead(2, 0), 36);
            c.same("lasts(0): 6 8 10 12 14", x.lasts(0), 5);
            c.same("ripe(0), at the age 9", x.ripe(0), 0);
            c.same("century", x.century(1, 2, 0, 0, 0), 36);
            c.same("span", x.span(1, 3, 2, 0, 0, 0, 0), 36);
        }
        c.same("the law", Check.law(x, "year*2"), 1);
        c.same("ahead(2, 0)", x.ahead(2, 0), 36);
        c.same("century", x.century(1, 2, 0, 0, 0), 36);
        c.same("the law", Check.law(x, "age-year+1"), 1);
        c.same("ahead(9, 0)", x.ahead(9, 0), 41);
        c.same("ripe(0), in 6 years", x.ripe(0), 44);
    }

    @Says("LASTS (0: it is GONE); NONE.")
    static void promise14LastsNoSuchCry(Check c) {
        CryGorge x = Check.made(LAND);
        c.elements("lasts", 3, x::lasts);
        c.refused(x, "lasts(3)", Check.NO_SUCH, () -> x.lasts(3));
        c.noSuch("no cries", () -> new CryGorge().lasts(0));
        c.same("1 is gone in a year", x.lasts(2), 1);
        Check.work(x, "year;keep 0 0;");
        c.same("gone", x.lasts(2), 0);
        Check.law(x, "0");
        c.same("never", x.lasts(0), -1);
    }

    @Says("RIPE.")
    static void promise15RipeNoSuchCry(Check c) {
        CryGorge x = Check.made(LAND);
        c.elements("ripe", 3, x::ripe);
        c.refused(x, "ripe(3)", Check.NO_SUCH, () -> x.ripe(3));
        c.noSuch("no cries", () -> new CryGorge().ripe(0));
        c.same("20 10 5", x.ripe(0), 5);
        c.same("1 0 0", x.ripe(2), 0);
    }
}
