/** Promises 16 to 19 and 29: plans, guesses, and the kindest bay. */
public final class PlansTest {
    private static final Check CHECK = new Check();
    private static final String GORGE = "bay 3 2;bay 1 1;bay 5 2;cry 10 20;cry 22 40;cry 5 9;cry 17 30;";

    public static void main(String[] args) {
        plan();
        planEdges();
        planByLaw();
        whose();
        listen();
        kindest();
        CHECK.end();
    }

    private static void planned(CryGorge x, int cries, int... bays) {
        for (int cry = 0; cry < bays.length; cry++) {
            CHECK.same("planned(" + cries + ", " + cry + ")", x.planned(cries, cry), bays[cry]);
        }
    }

    private static void plan() {
        CryGorge x = Check.made(GORGE);
        CHECK.same("plan(0)", x.plan(0), 0);
        planned(x, 0, -1, -1, -1, -1);
        CHECK.same("plan(1)", x.plan(1), 1);
        planned(x, 1, 1, -1, -1, -1);
        CHECK.same("plan(3): 3 and 1", x.plan(3), 4);
        planned(x, 3, 0, 1, -1, -1);
        CHECK.same("plan(15): 4, 4, 1, 5", x.plan(15), 14);
        planned(x, 15, 0, 0, 1, 2);
        Check.work(x, "felt 2;keep 3 1;keep 2 0;keep 1 0;");
        CHECK.same("felt: 1 and 3, whoever is there now", x.plan(5), 4);
        planned(x, 5, 0, -1, 1, -1);
        CHECK.same("felt: 1, 3 and 3", x.plan(7), 7);
        planned(x, 7, 0, 1, 2, -1);
        CHECK.same("nothing is kept by it", x.bay(2, 2), 0);
    }

    private static void planEdges() {
        CryGorge x = Check.made("bay 0 4;bay 9 4;cry 0 1;cry 0 2;cry 0 3;cry 0 4;cry 0 5;cry 0 6;term 1;");
        CHECK.same("no more than its strength", x.plan(3), 1);
        planned(x, 3, 1, 0, -1, -1, -1, -1);
        CHECK.same("plan(31): 1 2 3 and 1 1", x.plan(31), 8);
        planned(x, 31, 1, 1, 1, 0, 0, -1);
        CHECK.illegal("plan(63)", () -> x.plan(63));
        CHECK.illegal("plan(64)", () -> x.plan(64));
        CHECK.illegal("plan(-1)", () -> x.plan(-1));
        CHECK.illegal("planned(63, 0)", () -> x.planned(63, 0));
        CHECK.illegal("planned(64, 0)", () -> x.planned(64, 0));
        CHECK.noSuch("planned(64, 6)", () -> x.planned(64, 6));
        CHECK.noSuch("planned(0, -1)", () -> x.planned(0, -1));
        Check.work(x, "keep 5 0;year;out 5;");
        CHECK.same("out ones, too", x.plan(32), 0);
        planned(x, 32, -1, -1, -1, -1, -1, 0);
        CryGorge narrow = Check.made("bay 0 1;bay 0 1;cry 0 1;cry 0 2;cry 0 3;");
        CHECK.same("no room", narrow.plan(7), -1);
        planned(narrow, 7, -1, -1, -1);
        CHECK.same("room", narrow.plan(5), 0);
        planned(narrow, 5, 0, -1, 1);
        CryGorge bare = Check.made("cry 0 1;");
        CHECK.same("no bays", bare.plan(1), -1);
        CHECK.same("no bays, no cries", bare.plan(0), 0);
        planned(bare, 1, -1);
    }

    private static void planByLaw() {
        CryGorge x = Check.made("bay 0 4;bay 0 4;cry 5 50;cry 6 50;cry 7 50;");
        Check.law(x, "9-mates*4");
        CHECK.same("mates help", x.plan(7), 3);
        planned(x, 7, 0, 0, 0);
        Check.law(x, "(pitch-6)*(1-bay*2)*9+9");
        CHECK.same("by pitch and bay", x.plan(7), 0 + 9 + 0);
        planned(x, 7, 0, 0, 1);
        Check.work(x, "year;year;");
        Check.law(x, "age*year+strength/5");
        CHECK.same("as all is now", x.plan(1), 6);
    }

    private static void whose() {
        CryGorge x = Check.made(GORGE);
        CHECK.same("without lines all", x.whose(0), 12);
        CHECK.same("the first", x.whose(1), 0);
        Check.heard(x, "0 20;2 14;");
        CHECK.same("20, 17, 14", x.whose(0), 1);
        CHECK.same("cry 0 in bay 0", x.whose(1), 0);
        Check.heard(x, "1 4;");
        CHECK.same("cry 2 in bay 2", x.whose(1), 22);
        Check.heard(x, "40 0;");
        CHECK.same("all but cry 1 in bay 1, which is gone only then", x.whose(0), 12);
        Check.heard(x, "39 0;");
        CHECK.same("but here", x.whose(0), 11);
        Check.work(x, "felt 0;keep 0 0;keep 1 0;year;fill 2 9;");
        Check.heard(x, "1 19;");
        CHECK.same("by the door as it is now", x.whose(0), 2);
        CHECK.same("the first of two", x.whose(1), 0);
        Check.heard(x, "0 21;");
        CHECK.same("nobody's", x.whose(0), 0);
        CHECK.same("NONE", x.whose(1), -1);
        Check.law(x, "age+year");
        Check.heard(x, "3 14;");
        CHECK.same("0, 2 and 4 less, in any bay", x.whose(0), 3);
        Check.heard(x, "40 0;39 1;");
        CHECK.same("the age 40 counts", x.whose(0), 0);
        Check.law(x, "0");
        Check.heard(x, "40 30;");
        CHECK.same("the age 40 counts", x.whose(0), 3);
        CHECK.illegal("whose(2)", () -> x.whose(2));
        CHECK.illegal("whose(-1)", () -> x.whose(-1));
    }

    private static void listen() {
        CryGorge x = Check.made(GORGE);
        CHECK.same("at age 0 three are alike, at 1 none", x.listen(0), 1);
        CHECK.same("one is left", x.listen(1), 1);
        Check.heard(x, "0 20;");
        CHECK.same("17, 19, 15", x.listen(0), 1);
        Check.heard(x, "0 20;1 17;");
        CHECK.same("one is left whatever is heard", x.listen(0), 2);
        CHECK.same("one is left", x.listen(1), 1);
        Check.heard(x, "0 21;");
        CHECK.same("no pair", x.listen(0), 1);
        CHECK.same("none is left", x.listen(1), 0);
        Check.heard(x, "5 0;");
        CHECK.same("20 in bay 2, 9 in bays 0 and 2", x.whose(0), 3);
        CHECK.same("15, 6 or 4 at age 1", x.listen(0), 1);
        Check.law(x, "0");
        Check.heard(x, "0 9;1 9;3 9;");
        CHECK.same("they can't be told apart", x.listen(0), 2);
        CHECK.same("three are left", x.listen(1), 3);
        CryGorge y = Check.made("bay 0 1;bay 0 1;cry 0 99;");
        Check.law(y, "age/39*(1-bay)");
        CHECK.same("only the age 40 tells", y.listen(0), 40);
        CHECK.same("one is left", y.listen(1), 1);
        Check.law(y, "99");
        Check.heard(y, "0 99;");
        CHECK.same("both are gone at once", y.listen(1), 2);
        CHECK.same("and stay so, asked again", y.listen(1), 2);
        Check.law(y, "0");
        CHECK.same("both stay at 99", y.listen(1), 2);
        CHECK.same("and so, asked again", y.listen(1), 2);
        CHECK.illegal("listen(2)", () -> x.listen(2));
        CHECK.illegal("listen(-1)", () -> x.listen(-1));
    }

    private static void kindest() {
        CryGorge x = Check.made(GORGE + "felt 1;term 1;");
        CHECK.same("kindest(0, 0)", x.kindest(0, 0), 1);
        CHECK.same("kindest(0, 1)", x.kindest(0, 1), 1);
        Check.work(x, "keep 1 1;felt 0;");
        CHECK.same("of alike ones the first", x.kindest(0, 0), 0);
        CHECK.same("alone, though one is there", x.kindest(0, 1), 1);
        Check.law(x, "(fade-2)*(fade-2)*11");
        CHECK.same("no more than it has", x.kindest(2, 1), 9);
        CHECK.same("of alike ones the first", x.kindest(2, 0), 0);
        Check.law(x, "10-bay");
        Check.work(x, "keep 0 0;year;out 0;");
        CHECK.same("an out one, were it kept", x.kindest(0, 0), 2);
        CHECK.same("how much", x.kindest(0, 1), 8);
        CHECK.noSuch("kindest(4, 9)", () -> x.kindest(4, 9));
        CHECK.noSuch("kindest(-1, 0)", () -> x.kindest(-1, 0));
        CHECK.illegal("kindest(0, 2)", () -> x.kindest(0, 2));
        CHECK.illegal("kindest(0, -1)", () -> x.kindest(0, -1));
        CryGorge bare = Check.made("cry 0 1;");
        CHECK.same("no bays", bare.kindest(0, 0), -1);
        CHECK.same("no bays", bare.kindest(0, 1), -1);
    }
}
