/** Terms, ==== 1: the edges of the text WORK. What its steps do: TermStepsTest. */
public final class TermWorkTest {
    private static final String FULL = "bay 0 4;".repeat(6) + "cry 0 9;".repeat(8);

    public static void main(String[] args) throws Exception {
        Edges.run(TermWorkTest.class);
    }

    private static CryGorge work(Check c, String gorge, String text, int due, int place) {
        CryGorge x = Check.made(gorge);
        c.text(x, "work", text, due, place);
        return x;
    }

    @Says("WORK is a text of up to 150 bytes")
    static void termWorkUpTo150Bytes(Check c) {
        c.same("year", work(c, FULL, "year;".repeat(30), 30, -1).told(2), 30);
        c.same("year", work(c, FULL, "year;" + " ".repeat(145), 1, -1).told(2), 1);
        c.same("year", work(c, FULL, "year;".repeat(29) + "year ", -9, 150).told(2), 0);
        CryGorge x = Check.made(FULL);
        Check.feed(x, "year;".repeat(32));
        c.illegal("work(151)", () -> x.work(151));
        c.same("work(150)", x.work(150), 30);
    }

    @Says("{ STEP \";\" }")
    static void termWorkWithoutSteps(Check c) {
        for (String text : new String[] {"", " ", " ".repeat(150)}) {
            CryGorge x = work(c, FULL, text, 0, -1);
            c.same("it is a work", x.count(2), 1);
        }
        work(c, "", "", 0, -1);
    }

    @Says("{ STEP \";\" }")
    static void termWorkSemicolonBehindEachStep(Check c) {
        work(c, FULL, ";", -9, 0);
        work(c, FULL, "year", -9, 4);
        work(c, FULL, "year,", -9, 4);
        work(c, FULL, "year;;", -9, 5);
        work(c, FULL, "year year;", -9, 5);
        work(c, FULL, "year;year", -9, 9);
        work(c, FULL, "year;]", -9, 5);
        work(c, FULL, "]", -9, 0);
        work(c, FULL, "again 1[year;]", -9, 14);
        work(c, FULL, "again 1[year;];", 1, -1);
    }

    @Says("\"keep\" C B, \"felt\" B, \"bare\" B, \"loose\" C")
    static void termWorkCriesAndBaysThatAreTold(Check c) {
        c.same("bay 5", work(c, FULL, "keep 7 5;felt 5;bare 5;loose 7;fill 7 1;", 5, -1).cry(7, 1), 10);
        work(c, FULL, "keep 8 0;", -8, 5);
        work(c, FULL, "keep 0 6;", -8, 7);
        work(c, FULL, "felt 6;", -8, 5);
        work(c, FULL, "bare 6;", -8, 5);
        work(c, FULL, "loose 8;", -8, 6);
        work(c, FULL, "fill 8 1;", -8, 5);
        work(c, FULL, "out 8;", -8, 4);
        work(c, FULL, "out 7;", 0, -1);
        work(c, FULL, "keep -1 0;", -9, 5);
        work(c, FULL, "keep 0;", -9, 6);
        work(c, FULL, "keep;", -9, 4);
        work(c, FULL, "loose;", -9, 5);
        work(c, FULL, "felt;", -9, 4);
        work(c, FULL, "bare;", -9, 4);
        work(c, FULL, "out;", -9, 3);
        work(c, FULL, "year 1;", -9, 5);
        work(c, FULL, "keep 0 0 0;", -9, 9);
    }

    @Says("\"keep\" C B, \"felt\" B, \"bare\" B, \"loose\" C")
    static void termWorkInAGorgeWithoutSuch(Check c) {
        work(c, "", "keep 0 0;", -8, 5);
        work(c, "", "felt 0;", -8, 5);
        work(c, "", "bare 0;", -8, 5);
        work(c, "", "loose 0;", -8, 6);
        work(c, "", "fill 0 1;", -8, 5);
        work(c, "", "out 0;", -8, 4);
        work(c, "", "year;", 1, -1);
        work(c, "bay 0 1;", "keep 0 0;", -8, 5);
        work(c, "bay 0 1;", "felt 0;", 1, -1);
        work(c, "cry 0 1;", "keep 0 0;", -8, 7);
        work(c, "cry 0 1;", "fill 0 1;", 1, -1);
    }

    @Says("\"fill\" C N (1 to 30)")
    static void termWorkFill1To30(Check c) {
        work(c, FULL, "fill 0 0;", -8, 7);
        c.same("1 more", work(c, FULL, "fill 0 1;", 1, -1).cry(0, 1), 10);
        c.same("30 more", work(c, FULL, "fill 0 30;", 1, -1).cry(0, 1), 39);
        work(c, FULL, "fill 0 31;", -8, 7);
        work(c, FULL, "fill 0;", -9, 6);
    }

    @Says("\"again\" N \"[\" { STEP \";\" } \"]\" (N 0 to 40)")
    static void termWorkAgain0To40(Check c) {
        c.same("year", work(c, FULL, "again 0[year;];", 0, -1).told(2), 0);
        c.same("year", work(c, FULL, "again 1[year;];", 1, -1).told(2), 1);
        c.same("year", work(c, FULL, "again 40[year;];", 40, -1).told(2), 40);
        work(c, FULL, "again 41[year;];", -8, 6);
        work(c, FULL, "again [year;];", -9, 6);
    }

    @Says("\"again\" N \"[\" { STEP \";\" } \"]\" (N 0 to 40)")
    static void termWorkAgainItsBrackets(Check c) {
        work(c, FULL, "again 5[];", 0, -1);
        work(c, FULL, "again 5[ ] ;", 0, -1);
        work(c, FULL, "again 5", -9, 7);
        work(c, FULL, "again 5;", -9, 7);
        work(c, FULL, "again 5 year;", -9, 8);
        work(c, FULL, "again 5(year;);", -9, 7);
        work(c, FULL, "again 5[", -9, 8);
        work(c, FULL, "again 5[;];", -9, 8);
        work(c, FULL, "again 5[year];", -9, 12);
        work(c, FULL, "again 5[year;", -9, 13);
        work(c, FULL, "again 5[year;);", -9, 13);
        work(c, FULL, "again 5[year;]];", -9, 14);
    }

    @Says("or a 7th of ( least most again that is open at one time")
    static void termWork6AgainsAreOpenAtOneTime(Check c) {
        work(c, FULL, "again 1[".repeat(6) + "year;" + "];".repeat(6), 1, -1);
        work(c, FULL, "again 1[".repeat(7) + "year;" + "];".repeat(7), -7, 48);
        work(c, FULL, "again 1[".repeat(6) + "year;  again", -7, 55);
        work(c, FULL, "again 1[".repeat(6) + "agains", -9, 48);
        work(c, FULL, "again 0[".repeat(7), -7, 48);
        c.same("year", work(c, FULL, "again 1[".repeat(6) + "];again 1[year;];" + "];".repeat(5), 1, -1).told(2), 1);
        work(c, FULL, "again 1[year;];".repeat(7), 7, -1);
    }

    @Says("STEP: \"keep\" C B, \"felt\" B, \"bare\" B, \"loose\" C, \"fill\" C N (1 to 30), \"out\" C, \"year\"")
    static void termWorkNoOtherStep(Check c) {
        for (String word : new String[] {"keeps", "kee", "Keep", "bay", "cry", "years", "agai", "outs", "least", "filled"}) {
            work(c, FULL, word + " 0 0;", -9, 0);
        }
        work(c, FULL, "0 0;", -9, 0);
        c.same("none is done", work(c, FULL, "year;fill 0 1;yeah;", -9, 14).told(2), 0);
    }
}
