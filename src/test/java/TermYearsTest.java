/** Terms, ==== 2: what a YEAR does at its edges. */
public final class TermYearsTest {
    public static void main(String[] args) throws Exception {
        Edges.run(TermYearsTest.class);
    }

    @Says("year (REFUSED from 300 on)")
    static void termYearsRefusedFrom300On(Check c) {
        CryGorge x = c.inTheYear300("bay 0 1;cry 0 9;cry 0 9;", "keep 0 0;");
        c.allRefused(x, "year;", 1);
        c.allRefused(x, "again 5[year;year;];", 10);
        c.same("the year", x.told(2), 300);
        c.same("the age", x.cry(0, 2), 300);
        c.works(x, "fill 0 1;year;out 1;", 2, 1);
        c.same("undo()", x.undo(), 6);
        c.same("undo()", x.undo(), 5);
        c.same("undo()", x.undo(), 4);
        c.same("undo()", x.undo(), 3);
        c.same("the year", x.told(2), 299);
        c.works(x, "year;year;", 1, 1);
    }

    @Says("each KEPT cry is less strong by what it FADES (0 at least)")
    static void termYearsKept0AtLeast(Check c) {
        CryGorge x = Check.made("bay 0 4;bay 0 4;cry 0 4;cry 0 5;cry 0 6;cry 0 1;cry 0 99;");
        Check.law(x, "5");
        c.works(x, "keep 0 0;keep 1 0;keep 2 0;keep 3 0;keep 4 1;year;", 6, 0);
        int[] due = {0, 0, 1, 0, 94};
        for (int cry = 0; cry < due.length; cry++) {
            c.same("strength", x.cry(cry, 1), due[cry]);
        }
        c.works(x, "year;", 1, 0);
        c.same("a gone one stays at 0", x.cry(0, 1), 0);
        Check.law(x, "999*99");
        c.works(x, "year;", 1, 0);
        c.same("99 at most", x.told(10), 0);
        Check.law(x, "0-9");
        c.works(x, "fill 0 7;year;", 2, 0);
        c.same("none grows by fading", x.cry(0, 1), 7);
    }

    @Says("as all is as the YEAR begins")
    static void termYearsAsAllIsAsTheYearBegins(Check c) {
        CryGorge x = Check.made("bay 0 3;cry 0 1;cry 0 60;cry 0 60;");
        Check.law(x, "mates*10+year*3+age");
        c.works(x, "keep 0 0;keep 1 0;keep 2 0;year;", 4, 0);
        c.same("the one that is gone by it was a mate", x.cry(1, 1), 40);
        c.same("and of the last, too", x.cry(2, 1), 40);
        // A gone one that is kept there is a mate still: 20, and 3 for the year 1, and 1 for the age 1.
        c.works(x, "year;", 1, 0);
        c.same("by the year 1", x.cry(1, 1), 16);
        c.works(x, "loose 0;", 1, 0);
        // 10, and 6, and 2: no more than it has.
        c.same("by one mate", x.cry(1, 4), 16);
        c.works(x, "year;", 1, 0);
        c.same("gone", x.told(7), 7);
    }

    @Says("a LOOSE one by half of what it has (what is left is cut)")
    static void termYearsLooseByHalf(Check c) {
        CryGorge x = Check.made("cry 0 1;cry 0 2;cry 0 3;cry 0 4;cry 0 5;cry 0 98;cry 0 99;");
        c.same("1 loses 1", x.cry(0, 4), 1);
        c.same("2 loses 1", x.cry(1, 4), 1);
        c.same("3 loses 2", x.cry(2, 4), 2);
        c.same("99 loses 50", x.cry(6, 4), 50);
        c.works(x, "year;", 1, 0);
        int[] due = {0, 1, 1, 2, 2, 49, 49};
        for (int cry = 0; cry < due.length; cry++) {
            c.same("strength", x.cry(cry, 1), due[cry]);
        }
        c.works(x, "year;", 1, 0);
        c.same("0 stays 0", x.cry(0, 1), 0);
        c.same("0 loses 0", x.cry(0, 4), 0);
    }

    @Says("all that are not OUT are a YEAR older; the next YEAR.")
    static void termYearsOutOnesAreAsTheyWere(Check c) {
        CryGorge x = Check.made("bay 1 2;cry 0 9;cry 0 1;cry 0 50;term 1;");
        c.works(x, "keep 0 0;year;out 0;out 1;", 4, 0);
        c.works(x, "year;year;", 2, 0);
        c.same("as strong", x.cry(0, 1), 8);
        c.same("as old", x.cry(0, 2), 1);
        c.same("a gone one as old", x.cry(1, 2), 1);
        c.same("another is older", x.cry(2, 2), 3);
        c.same("and halved", x.cry(2, 1), 6);
        c.same("the year", x.told(2), 3);
    }

    @Says("all that are not OUT are a YEAR older; the next YEAR.")
    static void termYearsGoneOnesGrowOlder(Check c) {
        CryGorge x = Check.made("bay 9 1;cry 0 1;cry 0 1;term 2;");
        c.works(x, "keep 0 0;year;year;", 3, 0);
        c.same("gone", x.told(7), 3);
        c.same("kept, and older", x.cry(0, 2), 2);
        c.same("loose, and older", x.cry(1, 2), 2);
        c.same("they could be let out", x.grown(), 3);
    }

    @Says("GONE: of STRENGTH 0.")
    static void termYearsGoneOfStrength0(Check c) {
        CryGorge x = Check.made("bay 1 1;cry 0 2;cry 0 2;cry 0 1;term 1;");
        c.works(x, "keep 0 0;year;", 2, 0);
        c.same("1 and 1 and 0", x.told(7), 4);
        c.works(x, "out 2;year;", 2, 0);
        c.same("an out one, too", x.told(7), 7);
        c.works(x, "fill 0 1;", 1, 0);
        c.same("no more", x.told(7), 6);
    }
}
