/** Terms, ==== 2: what STEPS do at their edges, which are REFUSED, and how many are begun. */
public final class TermStepsTest {
    public static void main(String[] args) throws Exception {
        Edges.run(TermStepsTest.class);
    }

    @Says("It is YEAR 0 at first, all CRIES are LOOSE, 0 YEARS old, as strong as told, no door is felted.")
    static void termStepsAtFirst(Check c) {
        CryGorge x = Check.made("bay 3 2;bay 0 1;cry 10 1;cry 5 99;felt 2;");
        c.same("year", x.told(2), 0);
        c.same("felt that is left", x.told(4), 2);
        c.same("kept", x.told(5), 0);
        c.same("out", x.told(6), 0);
        c.same("gone", x.told(7), 0);
        for (int i = 0; i < 2; i++) {
            c.same("loose", x.cry(i, 3), -1);
            c.same("age", x.cry(i, 2), 0);
            c.same("strength", x.cry(i, 1), i == 0 ? 1 : 99);
            c.same("door", x.bay(i, 3), 0);
            c.same("kept there", x.bay(i, 2), 0);
        }
    }

    @Says("STEPS are done in order; one that can't be done is REFUSED")
    static void termStepsAreDoneInOrder(Check c) {
        String gorge = "bay 0 1;bay 0 1;cry 0 98;cry 0 9;felt 1;";
        c.works(Check.made(gorge), "keep 0 0;keep 1 0;loose 0;", 2, 1);
        c.works(Check.made(gorge), "keep 0 0;loose 0;keep 1 0;", 3, 0);
        c.works(Check.made(gorge), "felt 0;felt 1;bare 0;", 2, 1);
        c.works(Check.made(gorge), "felt 0;bare 0;felt 1;", 3, 0);
        CryGorge ahead = Check.made(gorge);
        c.works(ahead, "fill 0 5;year;", 2, 0);
        c.same("99, then its half", ahead.cry(0, 1), 49);
        CryGorge behind = Check.made(gorge);
        c.works(behind, "year;fill 0 5;", 2, 0);
        c.same("the half of 98, then 5 more", behind.cry(0, 1), 54);
        CryGorge loops = Check.made(gorge);
        c.works(loops, "again 2[fill 1 1;again 2[year;];];fill 1 1;", 7, 0);
        // 9 10 5 2, 3 1 0, 1
        c.same("inner ones ahead of what is behind them", loops.cry(1, 1), 1);
    }

    @Says("one that can't be done is REFUSED, and changes nothing")
    static void termStepsGoOnBehindARefusedOne(Check c) {
        CryGorge x = Check.made("bay 0 1;cry 0 9;");
        c.works(x, "bare 0;felt 0;loose 0;keep 0 0;out 0;year;", 3, 3);
        c.same("door", x.bay(0, 3), 1);
        c.same("kept", x.told(5), 1);
        c.same("year", x.told(2), 1);
    }

    @Says("200 STEPS at most are begun by one WORK")
    static void termSteps200AtMostAreBegun(Check c) {
        CryGorge x = Check.made("bay 0 1;cry 0 1;");
        c.works(x, "again 40[year;year;year;year;year;];", 199, 0);
        c.same("year", x.told(2), 199);
        CryGorge last = Check.made("bay 0 1;cry 0 1;");
        c.works(last, "year;again 39[year;year;year;year;year;];year;year;felt 0;", 199, 0);
        c.same("the 200th is begun", last.bay(0, 3), 1);
        CryGorge behind = Check.made("bay 0 1;cry 0 1;");
        c.works(behind, "year;again 39[year;year;year;year;year;];year;year;year;felt 0;", 199, 0);
        c.same("the 201st is not", behind.bay(0, 3), 0);
        c.same("the year", behind.told(2), 199);
    }

    @Says("200 STEPS at most are begun by one WORK")
    static void termSteps200ByEachWorkAnew(Check c) {
        CryGorge x = Check.made("");
        c.works(x, "again 40[year;year;year;year;year;];", 199, 0);
        c.works(x, "again 20[year;year;year;year;year;];", 100, 0);
        c.same("year", x.told(2), 299);
    }

    @Says("(an again, too, each time it is come to; REFUSED ones, too)")
    static void termStepsAgainCountsEachTimeItIsComeTo(Check c) {
        CryGorge x = Check.made("bay 0 1;cry 0 1;");
        c.works(x, "again 40[again 4[year;];];", 159, 0);
        CryGorge y = Check.made("bay 0 1;cry 0 1;");
        c.works(y, "again 39[again 4[year;];];year;year;year;year;felt 0;", 160, 0);
        c.same("196 and four more", y.bay(0, 3), 0);
        CryGorge z = Check.made("bay 0 1;cry 0 1;");
        c.works(z, "again 39[again 4[year;];];year;year;year;felt 0;", 160, 0);
        c.same("196, three and one more", z.bay(0, 3), 1);
    }

    @Says("(an again, too, each time it is come to; REFUSED ones, too)")
    static void termStepsAgain0AndAnEmptyOneAreBegun(Check c) {
        CryGorge x = Check.made("");
        c.works(x, "again 40[again 0[year;];again 0[];again 9[];again 0[];year;];", 39, 0);
        CryGorge y = Check.made("");
        c.works(y, "again 39[again 0[year;];again 0[];again 9[];again 0[];year;];year;year;year;year;year;", 43, 0);
        CryGorge z = Check.made("");
        c.works(z, "again 40[again 40[again 40[again 40[again 40[again 40[];];];];];];year;", 0, 0);
        c.same("it was not come to", z.told(2), 0);
    }

    @Says("(an again, too, each time it is come to; REFUSED ones, too)")
    static void termStepsRefusedOnesAreBegun(Check c) {
        CryGorge x = Check.made("bay 0 1;cry 0 1;");
        c.works(x, "again 40[loose 0;loose 0;loose 0;loose 0;year;];", 39, 160);
        CryGorge y = Check.made("bay 0 1;cry 0 1;");
        c.works(y, "again 40[loose 0;bare 0;out 0;loose 0;loose 0;];year;", 0, 199);
        c.same("left out", y.told(2), 0);
    }

    @Says("what would come behind is left out.")
    static void termStepsLeftOutIsNeitherDoneNorRefused(Check c) {
        CryGorge x = Check.made("bay 0 1;cry 0 1;");
        c.works(x, "again 40[year;year;year;year;loose 0;];loose 0;loose 0;", 160, 39);
        CryGorge y = Check.made("bay 0 1;cry 0 1;");
        c.works(y, "again 39[year;year;year;year;year;];year;year;year;year;loose 0;loose 0;", 199, 0);
    }

    @Says("keep: C is KEPT in B (REFUSED, if it is OUT or there, or B holds W cries).")
    static void termStepsKeepRefusedIfBHoldsWCries(Check c) {
        CryGorge x = Check.made("bay 0 1;bay 0 4;" + "cry 0 9;".repeat(7));
        c.works(x, "keep 0 0;", 1, 0);
        c.allRefused(x, "keep 1 0;", 1);
        c.works(x, "keep 1 1;keep 2 1;keep 3 1;keep 4 1;", 4, 0);
        c.allRefused(x, "keep 5 1;keep 0 1;", 2);
        c.same("bay(0, 2)", x.bay(0, 2), 1);
        c.same("bay(1, 2)", x.bay(1, 2), 30);
        c.works(x, "loose 3;keep 5 1;", 2, 0);
        c.same("bay(1, 2)", x.bay(1, 2), 54);
        c.same("room()", x.room(), 0);
    }

    @Says("keep: C is KEPT in B (REFUSED, if it is OUT or there, or B holds W cries).")
    static void termStepsKeepRefusedIfThere(Check c) {
        CryGorge x = Check.made("bay 0 1;bay 0 4;cry 0 9;cry 0 9;");
        c.works(x, "keep 0 0;keep 1 1;", 2, 0);
        c.allRefused(x, "keep 0 0;keep 1 1;", 2);
        c.works(x, "keep 0 1;keep 1 0;", 2, 0);
        c.same("it has left the other bay", x.bay(0, 2), 2);
        c.same("and is here", x.bay(1, 2), 1);
    }

    @Says("keep: C is KEPT in B (REFUSED, if it is OUT or there, or B holds W cries).")
    static void termStepsKeepRefusedIfOut(Check c) {
        CryGorge x = Check.made("bay 0 1;cry 0 9;term 1;");
        c.works(x, "keep 0 0;year;out 0;", 3, 0);
        c.allRefused(x, "keep 0 0;", 1);
        c.same("out", x.cry(0, 3), -2);
    }

    @Says("felt: the door of B is felted (REFUSED, if it is, or no felt is left), one felt less")
    static void termStepsFelt(Check c) {
        CryGorge x = Check.made("bay 0 1;bay 0 1;bay 0 1;felt 2;");
        c.works(x, "felt 1;", 1, 0);
        c.same("one less", x.told(4), 1);
        c.allRefused(x, "felt 1;", 1);
        c.works(x, "felt 0;", 1, 0);
        c.same("none left", x.told(4), 0);
        c.allRefused(x, "felt 2;felt 0;", 2);
        CryGorge none = Check.made("bay 0 1;felt 0;");
        c.allRefused(none, "felt 0;", 1);
        CryGorge many = Check.made("bay 0 1;".repeat(6) + "felt 9;");
        c.works(many, "felt 0;felt 1;felt 2;felt 3;felt 4;felt 5;", 6, 0);
        c.same("three left", many.told(4), 3);
    }

    @Says("bare: it is not (REFUSED, if it is not), one felt more.")
    static void termStepsBare(Check c) {
        CryGorge x = Check.made("bay 0 1;bay 0 1;felt 1;");
        c.allRefused(x, "bare 0;bare 1;", 2);
        c.works(x, "felt 0;", 1, 0);
        c.allRefused(x, "bare 1;", 1);
        c.works(x, "bare 0;", 1, 0);
        c.same("one more", x.told(4), 1);
        c.same("door", x.bay(0, 3), 0);
        c.allRefused(x, "bare 0;", 1);
        c.works(x, "felt 1;bare 1;felt 0;", 3, 0);
        c.same("door", x.bay(0, 3), 1);
        c.same("the other door", x.bay(1, 3), 0);
    }

    @Says("loose: C is LOOSE (REFUSED, if it is not KEPT).")
    static void termStepsLoose(Check c) {
        CryGorge x = Check.made("bay 0 1;bay 0 1;cry 0 9;cry 0 9;term 1;");
        c.allRefused(x, "loose 0;", 1);
        c.works(x, "keep 0 0;keep 1 1;loose 0;loose 1;", 4, 0);
        c.same("loose", x.cry(0, 3), -1);
        c.same("loose, of the bay 1, too", x.cry(1, 3), -1);
        c.same("nobody there", x.bay(0, 2), 0);
        c.works(x, "keep 0 0;year;out 0;", 3, 0);
        c.allRefused(x, "loose 0;", 1);
        c.same("out", x.cry(0, 3), -2);
    }

    @Says("fill: C is N stronger, 99 at most (REFUSED, if it is OUT, or has 99).")
    static void termStepsFill99AtMost(Check c) {
        CryGorge x = Check.made("bay 0 1;cry 0 69;cry 0 70;cry 0 98;cry 0 99;cry 0 98;");
        c.works(x, "fill 0 30;fill 1 30;fill 2 1;fill 4 30;", 4, 0);
        c.allRefused(x, "fill 3 1;fill 0 1;fill 1 30;fill 2 1;fill 4 30;", 5);
        for (int cry = 0; cry < 5; cry++) {
            c.same("strength", x.cry(cry, 1), 99);
        }
        c.same("as told", x.cry(0, 5), 69);
    }

    @Says("fill: C is N stronger, 99 at most (REFUSED, if it is OUT, or has 99).")
    static void termStepsFillGoneKeptAndOutOnes(Check c) {
        CryGorge x = Check.made("bay 0 1;cry 0 1;cry 0 9;term 1;");
        c.works(x, "keep 1 0;year;", 2, 0);
        c.same("gone", x.told(7), 1);
        c.works(x, "fill 0 1;fill 1 2;", 2, 0);
        c.same("gone no more", x.told(7), 0);
        c.same("a kept one", x.cry(1, 1), 11);
        c.works(x, "out 1;", 1, 0);
        c.allRefused(x, "fill 1 1;", 1);
    }

    @Says("out: C is OUT (REFUSED, if it is OUT, or is not as old as the term).")
    static void termStepsOutAsOldAsTheTerm(Check c) {
        CryGorge x = Check.made("bay 0 2;cry 0 9;cry 0 9;term 3;");
        c.works(x, "keep 0 0;year;year;", 3, 0);
        c.allRefused(x, "out 0;out 1;", 2);
        c.works(x, "year;out 0;", 2, 0);
        c.same("a kept one is out", x.cry(0, 3), -2);
        c.same("its bay is empty", x.bay(0, 2), 0);
        c.allRefused(x, "out 0;", 1);
        c.works(x, "year;out 1;", 2, 0);
        c.same("a loose one, older than the term", x.told(6), 3);
    }

    @Says("out: C is OUT (REFUSED, if it is OUT, or is not as old as the term).")
    static void termStepsOutByTheLeastAndTheMostTerm(Check c) {
        CryGorge least = Check.made("cry 0 9;term 1;");
        c.works(least, "out 0;year;out 0;", 2, 1);
        CryGorge most = Check.made("cry 0 9;term 40;");
        c.works(most, "again 39[year;];out 0;year;out 0;", 41, 1);
        CryGorge without = Check.made("cry 0 9;");
        c.works(without, "again 20[year;];out 0;year;out 0;", 22, 1);
    }

    @Says("A CRY is KEPT (in a BAY), LOOSE, or OUT.")
    static void termStepsOneOfThree(Check c) {
        CryGorge x = Check.made("bay 0 2;cry 0 9;cry 0 9;cry 0 9;term 1;");
        c.works(x, "year;keep 0 0;out 1;", 3, 0);
        c.same("kept", x.told(5), 1);
        c.same("out", x.told(6), 2);
        c.same("the bay", x.cry(0, 3), 0);
        c.same("out", x.cry(1, 3), -2);
        c.same("loose", x.cry(2, 3), -1);
    }
}
