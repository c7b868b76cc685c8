/** Terms, ==== 3: that asking changes nothing, and the edges of LASTS, RIPE, PLAN, WHOSE and LISTEN. */
public final class TermAskedTest {
    private static final String GORGE = "bay 1 2;bay 2 1;cry 10 50;cry 22 40;cry 5 1;path 0 1 7;term 2;felt 2;";

    public static void main(String[] args) throws Exception {
        Edges.run(TermAskedTest.class);
    }

    private static void planned(Check c, CryGorge x, int cries, int... bays) {
        for (int cry = 0; cry < bays.length; cry++) {
            c.same("planned(" + cries + ", " + cry + ")", x.planned(cries, cry), bays[cry]);
        }
    }

    private static void whose(Check c, CryGorge x, String heard, int many, int first) {
        c.same("heard " + heard, Check.heard(x, heard) >= 0 ? 1 : 0, 1);
        c.same("whose(0) by " + heard, x.whose(0), many);
        c.same("whose(1) by " + heard, x.whose(1), first);
    }

    private static void listen(Check c, CryGorge x, String heard, int age, int left) {
        c.same("heard " + heard, Check.heard(x, heard) >= 0 ? 1 : 0, 1);
        c.same("listen(0) by " + heard, x.listen(0), age);
        c.same("listen(1) by " + heard, x.listen(1), left);
    }

    @Says("Asked, nothing stays changed")
    static void termAskedNothingStaysChanged(Check c) {
        CryGorge x = Check.made(GORGE);
        Check.law(x, "fade+mates+age/3");
        Check.heard(x, "1 47;");
        Check.work(x, "keep 0 0;keep 1 0;felt 0;year;keep 2 1;year;year;out 2;loose 2;");
        x.image();
        Check.feed(x, "term 1;");
        String before = Look.all(x);
        for (int what = 0; what <= 1; what++) {
            x.ahead(99, what);
            x.whose(what);
            x.listen(what);
            x.pairs(0, what);
            x.chord(50, what);
            x.way(0, 1, what);
            x.loudest(what);
            x.kindest(0, what);
            x.prices(9, 9, what);
        }
        x.lasts(0);
        x.ripe(1);
        x.plan(7);
        x.planned(7, 1);
        x.interval(0, 1);
        x.round(0, 3);
        x.ears();
        x.share(0, 7, 9);
        x.grown();
        x.room();
        for (int what = 0; what <= 3; what++) {
            x.century(1, 96, 16, 16, what);
            x.span(1, 20, 96, 16, 16, Math.min(what, 2), 0);
        }
        c.alike("all behind the asking", Look.all(x), before);
        c.same("the tape is as it was", x.gorge(7), 0);
        c.same("the term", x.told(3), 1);
    }

    @Says("YEARS go by as by year (beyond 300, too).")
    static void termAskedYearsBeyond300(Check c) {
        CryGorge x = c.inTheYear300("bay 0 1;cry 0 30;", "keep 0 0;");
        c.same("law", Check.law(x, "year-295"), 1);
        c.same("by the year 300", x.cry(0, 4), 5);
        c.same("by the year 300", x.kindest(0, 1), 5);
        c.same("by the year 300", x.plan(1), 5);
        // 30 25 19 12 4 0, by the years 300 to 304
        int[] due = {30, 25, 19, 12, 4, 0};
        for (int n = 0; n < due.length; n++) {
            c.same("ahead(" + n + ", 0)", x.ahead(n, 0), due[n]);
            c.same("ahead(" + n + ", 1)", x.ahead(n, 1), n == 5 ? 1 : 0);
            if (n > 0) {
                c.same("century of " + n, x.century(1, n, 0, 0, 0), due[n]);
                c.same("span of " + n, x.span(1, 2, n, 0, 0, 1, 0), due[n]);
            }
        }
        c.same("lasts(0)", x.lasts(0), 5);
        c.same("the year", x.told(2), 300);
    }

    @Says("LASTS of a CRY: in how many YEARS it is GONE, nothing being done, of the next 60.")
    static void termLastsOfTheNext60(Check c) {
        CryGorge x = Check.made("bay 1 1;bay 1 1;bay 1 1;bay 0 1;cry 0 59;cry 0 60;cry 0 61;cry 0 1;cry 0 1;");
        Check.work(x, "keep 0 0;keep 1 1;keep 2 2;keep 3 3;");
        c.same("59", x.lasts(0), 59);
        c.same("60", x.lasts(1), 60);
        c.same("61 are too many", x.lasts(2), -1);
        c.same("it never fades", x.lasts(3), -1);
        c.same("1, loose", x.lasts(4), 1);
        Check.work(x, "year;");
        c.same("gone", x.lasts(4), 0);
        c.same("60 are left of 61", x.lasts(2), 60);
    }

    @Says("LASTS of a CRY: in how many YEARS it is GONE, nothing being done, of the next 60.")
    static void termLastsOfOutOnes(Check c) {
        CryGorge x = Check.made("bay 0 1;cry 0 9;cry 0 1;term 1;");
        Check.work(x, "keep 0 0;year;out 0;out 1;");
        c.same("an out one does not fade", x.lasts(0), -1);
        c.same("one that was gone", x.lasts(1), 0);
    }

    @Says("RIPE of a CRY: its STRENGTH when it is as old as the term, nothing being done (now, if it is as old already, or OUT).")
    static void termRipeAsOldAsTheTerm(Check c) {
        CryGorge x = Check.made("bay 2 1;cry 0 20;cry 0 80;term 3;");
        Check.work(x, "keep 0 0;");
        c.same("in 3 years", x.ripe(0), 14);
        c.same("80 40 20 10", x.ripe(1), 10);
        Check.work(x, "year;year;");
        c.same("in a year", x.ripe(0), 14);
        Check.work(x, "year;");
        c.same("now", x.ripe(0), 14);
        Check.work(x, "year;");
        c.same("older already", x.ripe(0), 12);
        Check.work(x, "out 0;year;");
        c.same("out", x.ripe(0), 12);
        c.same("the least term", Check.made("cry 0 9;term 1;").ripe(0), 4);
        CryGorge most = Check.made("bay 1 1;cry 0 99;term 40;");
        Check.work(most, "keep 0 0;");
        c.same("the most", most.ripe(0), 59);
        CryGorge without = Check.made("bay 1 1;cry 0 99;");
        Check.work(without, "keep 0 0;");
        c.same("21 years", without.ripe(0), 78);
        CryGorge gone = Check.made("cry 0 1;");
        c.same("gone by then", gone.ripe(0), 0);
    }

    @Says("PLAN of told CRIES (bits, 5 at most; OUT ones, too)")
    static void termPlan5AtMost(Check c) {
        CryGorge x = Check.made("bay 0 4;bay 0 4;" + "cry 0 9;".repeat(8));
        c.same("none", x.plan(0), 0);
        // Three with two mates each, two with one.
        c.same("5", x.plan(31), 8);
        planned(c, x, 31, 0, 0, 0, 1, 1, -1, -1, -1);
        c.same("5 others", x.plan(248), 8);
        planned(c, x, 248, -1, -1, -1, 0, 0, 0, 1, 1);
        c.illegal("6", () -> x.plan(63));
        c.illegal("6 others", () -> x.plan(252));
        c.illegal("8", () -> x.plan(255));
        c.illegal("no such cry", () -> x.plan(256));
        c.illegal("no such cries", () -> x.plan(-1));
        c.illegal("no such cry", () -> x.plan(Integer.MIN_VALUE));
        c.illegal("6, planned", () -> x.planned(63, 0));
    }

    @Says("PLAN of told CRIES (bits, 5 at most; OUT ones, too)")
    static void termPlanOf5CriesIn6Bays(Check c) {
        CryGorge x = Check.made("bay 5 4;bay 4 4;bay 3 4;bay 2 4;bay 1 4;bay 0 4;" + "cry 0 99;".repeat(8));
        // 1 and 1 in the bay 5, and 1, 2, 3 in the bays 4, 3, 2; two in the bay 4 would be as good, but come later.
        c.same("plan(31)", x.plan(31), 8);
        planned(c, x, 31, 2, 3, 4, 5, 5, -1, -1, -1);
        c.same("plan(248)", x.plan(248), 8);
        planned(c, x, 248, -1, -1, -1, 2, 3, 4, 5, 5);
        Check.law(x, "fade*9-mates*40");
        c.same("four together, and one alone", x.plan(31), 0);
        planned(c, x, 31, 0, 0, 0, 0, 5, -1, -1, -1);
        c.same("the kindest is the last", x.kindest(7, 0), 5);
    }

    @Says("PLAN of told CRIES (bits, 5 at most; OUT ones, too)")
    static void termPlanOfOutOnes(Check c) {
        CryGorge x = Check.made("bay 7 1;bay 3 1;cry 0 9;cry 0 9;term 1;");
        Check.work(x, "keep 0 0;year;out 0;fill 1 30;");
        c.same("2 are left of 9", x.cry(0, 1), 2);
        c.same("an out one", x.plan(1), 2);
        c.same("and another", x.plan(3), 2 + 3);
        planned(c, x, 3, 0, 1);
    }

    @Says("were these and no others KEPT")
    static void termPlanNoOthersKept(Check c) {
        CryGorge x = Check.made("bay 1 1;bay 9 4;cry 0 50;cry 0 50;cry 0 50;");
        Check.work(x, "keep 2 0;keep 0 1;keep 1 1;");
        c.same("the full bay is free", x.plan(1), 1);
        planned(c, x, 1, 0, -1, -1);
        c.same("no mates but the told ones", x.plan(3), 10);
        planned(c, x, 3, 0, 1, -1);
        c.same("all stay where they are", x.bay(0, 2), 4);
    }

    @Says("of all ways to keep each in a BAY (no more than it holds) that by which they lose least together in this YEAR")
    static void termPlanNoMoreThanItHolds(Check c) {
        CryGorge four = Check.made("bay 0 4;" + "cry 0 9;".repeat(5));
        c.same("4 of 4", four.plan(15), 12);
        planned(c, four, 15, 0, 0, 0, 0, -1);
        c.same("5 of 4", four.plan(31), -1);
        planned(c, four, 31, -1, -1, -1, -1, -1);
        CryGorge one = Check.made("bay 0 1;bay 20 1;cry 0 30;cry 0 30;cry 0 30;");
        c.same("one each", one.plan(3), 20);
        planned(c, one, 3, 0, 1, -1);
        c.same("3 of 2", one.plan(7), -1);
        CryGorge none = Check.made("cry 0 1;");
        c.same("no bays", none.plan(1), -1);
        c.same("no bays, none told", none.plan(0), 0);
        planned(c, none, 1, -1);
    }

    @Says("they lose least together in this YEAR, as all is now (each what it FADES, no more than its STRENGTH); of alike ways the first (CRY by CRY the least BAY); NONE.")
    static void termPlanInThisYearAsAllIsNow(Check c) {
        CryGorge x = Check.made("bay 0 1;bay 0 1;cry 0 80;");
        c.works(x, "keep 0 0;felt 0;year;year;", 4, 0);
        Check.law(x, "year*3+age+felt*5+strength/10");
        c.same("by the year 2, the age 2, 80, and a bare door", x.plan(1), 6 + 2 + 8);
        planned(c, x, 1, 1);
        c.works(x, "bare 0;fill 0 19;", 2, 0);
        c.same("by 99", x.plan(1), 6 + 2 + 9);
        planned(c, x, 1, 0);
        c.works(x, "year;", 1, 0);
        c.same("by the year 3, the age 3, and 82", x.plan(1), 9 + 3 + 8);
        c.same("undo()", x.undo(), 2);
        c.same("as ahead of it", x.plan(1), 6 + 2 + 9);
    }

    @Says("(each what it FADES, no more than its STRENGTH)")
    static void termPlanNoMoreThanItsStrength(Check c) {
        CryGorge x = Check.made("bay 0 1;bay 9 1;cry 0 1;cry 0 9;");
        c.same("1 of 1, and 0", x.plan(3), 1);
        planned(c, x, 3, 1, 0);
        Check.work(x, "year;");
        c.same("a gone one loses nothing", x.plan(1), 0);
        planned(c, x, 1, 0, -1);
        c.same("0 and 0", x.plan(3), 0);
        planned(c, x, 3, 1, 0);
    }

    @Says("of alike ways the first (CRY by CRY the least BAY)")
    static void termPlanFirstOfAlikeWays(Check c) {
        CryGorge x = Check.made("bay 3 2;bay 3 2;bay 3 2;cry 0 9;cry 0 9;");
        c.same("apart", x.plan(3), 6);
        planned(c, x, 3, 0, 1);
        Check.law(x, "3");
        c.same("all ways are alike", x.plan(3), 6);
        planned(c, x, 3, 0, 0);
        Check.law(x, "3-bay");
        c.same("the last bay", x.plan(3), 2);
        planned(c, x, 3, 2, 2);
        Check.law(x, "3-most[bay,1]/2-mates*9");
        c.same("together, anywhere", x.plan(3), 0);
        planned(c, x, 3, 0, 0);
    }

    @Says("WHOSE by HEARD: pairs of a CRY and a BAY by which all lines are right")
    static void termWhoseAllLinesAreRight(Check c) {
        CryGorge x = Check.made("bay 1 2;bay 2 2;cry 0 50;cry 0 52;");
        whose(c, x, "", 4, 0);
        whose(c, x, "0 52;", 2, 10);
        whose(c, x, "2 48;", 2, 0);
        whose(c, x, "2 48;0 50;", 1, 0);
        whose(c, x, "2 48;0 52;", 1, 11);
        whose(c, x, "2 48;0 52;1 51;", 0, -1);
        whose(c, x, "0 51;", 0, -1);
        whose(c, x, "0 50;1 49;2 48;3 47;4 46;5 45;", 1, 0);
        whose(c, x, "0 50;1 49;2 48;3 47;4 46;5 44;", 0, -1);
        whose(c, new CryGorge(), "", 0, -1);
        whose(c, Check.made("bay 1 1;"), "", 0, -1);
        whose(c, Check.made("cry 1 1;"), "", 0, -1);
        whose(c, Check.made("bay 0 1;".repeat(6) + "cry 0 1;".repeat(8)), "40 1;", 48, 0);
    }

    @Says("were it KEPT there alone from AGE 0, YEAR 0, on, the door as it is now, as strong as told at first")
    static void termWhoseAloneFromAge0Year0(Check c) {
        CryGorge x = Check.made("bay 1 2;bay 2 2;cry 0 50;cry 0 52;term 1;");
        Check.work(x, "keep 0 0;keep 1 0;felt 1;year;fill 0 9;");
        whose(c, x, "0 50;", 2, 0);
        whose(c, x, "1 49;", 1, 0);
        whose(c, x, "2 50;", 2, 1);
        whose(c, x, "40 52;", 1, 11);
        Check.work(x, "bare 1;");
        whose(c, x, "2 50;", 1, 10);
        Check.work(x, "out 0;");
        whose(c, x, "0 50;", 2, 0);
        Check.law(x, "year*2+age");
        // 50 50 47 41, whatever the year is now
        whose(c, x, "1 50;2 47;3 41;", 2, 0);
        Check.law(x, "strength/2");
        whose(c, x, "1 25;2 13;", 2, 0);
        Check.law(x, "mates*9+1");
        whose(c, x, "1 51;", 2, 10);
    }

    @Says("it would be S strong at AGE A")
    static void termWhoseAtAges0And40(Check c) {
        CryGorge x = Check.made("bay 1 1;cry 0 50;cry 0 40;cry 0 41;cry 0 39;");
        whose(c, x, "40 10;", 1, 0);
        whose(c, x, "40 0;", 2, 10);
        whose(c, x, "40 1;", 1, 20);
        whose(c, x, "39 0;", 1, 30);
        whose(c, x, "39 0;0 39;", 1, 30);
        whose(c, x, "0 41;40 1;", 1, 20);
    }

    @Says("LISTEN: the AGE (0 to 40) in no line by which, whatever is heard, fewest such pairs are left at the worst, of these the first.")
    static void termListenFewestAtTheWorst(Check c) {
        CryGorge x = Check.made("bay 0 1;bay 0 1;bay 0 1;cry 0 10;");
        // At age 1 they are 10 10 9 strong, at age 2 10 8 9.
        Check.law(x, "(1-age)*(bay/2)+age*(bay%2)*2");
        listen(c, x, "", 2, 1);
        listen(c, x, "2 8;", 0, 1);
        listen(c, x, "1 10;", 2, 1);
        listen(c, x, "1 9;", 0, 1);
        listen(c, x, "1 8;", 0, 0);
        Check.law(x, "0");
        listen(c, x, "", 0, 3);
        listen(c, x, "0 10;", 1, 3);
        listen(c, x, "1 10;", 0, 3);
        listen(c, x, "0 10;1 10;3 10;", 2, 3);
    }

    @Says("LISTEN: the AGE (0 to 40) in no line by which, whatever is heard, fewest such pairs are left at the worst, of these the first.")
    static void termListenAges0And40(Check c) {
        CryGorge x = Check.made("bay 0 1;bay 0 1;cry 0 99;");
        Check.law(x, "age/39*(1-bay)");
        listen(c, x, "", 40, 1);
        Check.law(x, "age/38*(1-bay)");
        listen(c, x, "", 39, 1);
        listen(c, x, "39 99;", 0, 1);
        Check.law(x, "age/40");
        listen(c, x, "", 0, 2);
        CryGorge apart = Check.made("bay 0 1;cry 0 5;cry 0 6;");
        listen(c, apart, "", 0, 1);
    }

    @Says("LISTEN: the AGE (0 to 40) in no line by which, whatever is heard, fewest such pairs are left at the worst, of these the first.")
    static void termListenWithoutPairs(Check c) {
        listen(c, new CryGorge(), "", 0, 0);
        listen(c, new CryGorge(), "0 1;", 1, 0);
        listen(c, new CryGorge(), "5 1;4 1;3 1;2 1;1 1;0 1;", 6, 0);
        listen(c, new CryGorge(), "6 1;4 1;3 1;2 1;1 1;0 1;", 5, 0);
        CryGorge full = Check.made("bay 0 1;".repeat(6) + "cry 0 99;".repeat(8));
        listen(c, full, "", 0, 48);
        Check.law(full, "99");
        listen(c, full, "0 99;", 1, 48);
    }
}
