/** Promises 5, 8 to 11, 30, 31 and 34 to 37: what steps do, what stands, what is undone. */
public final class KeepingTest {
    private static final Check CHECK = new Check();
    private static final String GORGE = "bay 3 2;bay 1 1;bay 5 4;cry 10 20;cry 22 40;cry 5 9;cry 17 30;"
            + "path 0 1 4;term 3;felt 1;";

    public static void main(String[] args) {
        keep();
        felt();
        fillAndLoose();
        out();
        years();
        loops();
        told();
        bayAndCry();
        undo();
        images();
        refusals();
        CHECK.end();
    }

    /** Works a text: how many steps are done, and how many refused. */
    private static void work(CryGorge x, String text, int done, int refused) {
        CHECK.same(text, Check.work(x, text), done);
        CHECK.same("refused by " + text, x.told(9), refused);
    }

    private static void keep() {
        CryGorge x = Check.made(GORGE);
        CHECK.same("room()", x.room(), 7);
        work(x, "keep 0 0;keep 0 0;", 1, 1);
        work(x, "keep 1 0;keep 2 0;", 1, 1);
        CHECK.same("bay(0, 2)", x.bay(0, 2), 3);
        work(x, "keep 0 1;keep 2 0;", 2, 0);
        CHECK.same("bay(0, 2)", x.bay(0, 2), 6);
        CHECK.same("bay(1, 2)", x.bay(1, 2), 1);
        CHECK.same("cry(0, 3)", x.cry(0, 3), 1);
        CHECK.same("cry(3, 3)", x.cry(3, 3), -1);
        CHECK.same("told(5)", x.told(5), 7);
        CHECK.same("room()", x.room(), 4);
    }

    private static void felt() {
        CryGorge x = Check.made(GORGE);
        work(x, "bare 0;felt 0;felt 0;felt 1;", 1, 3);
        CHECK.same("told(4)", x.told(4), 0);
        CHECK.same("bay(0, 3)", x.bay(0, 3), 1);
        CHECK.same("bay(1, 3)", x.bay(1, 3), 0);
        work(x, "bare 0;felt 1;", 2, 0);
        CHECK.same("bay(0, 3)", x.bay(0, 3), 0);
        CHECK.same("bay(1, 3)", x.bay(1, 3), 1);
        work(x, "bare 1;", 1, 0);
        CHECK.same("told(4)", x.told(4), 1);
        CryGorge y = Check.made("bay 1 1;felt 2;");
        work(y, "felt 0;felt 0;", 1, 1);
        CHECK.same("told(4)", y.told(4), 1);
    }

    private static void fillAndLoose() {
        CryGorge x = Check.made(GORGE);
        work(x, "loose 0;keep 0 0;loose 0;loose 0;", 2, 2);
        CHECK.same("cry(0, 3)", x.cry(0, 3), -1);
        work(x, "fill 1 30;fill 1 28;", 2, 0);
        CHECK.same("cry(1, 1)", x.cry(1, 1), 98);
        work(x, "fill 1 5;fill 1 1;", 1, 1);
        CHECK.same("cry(1, 1)", x.cry(1, 1), 99);
        CHECK.same("cry(1, 5)", x.cry(1, 5), 40);
    }

    private static void out() {
        CryGorge x = Check.made(GORGE);
        work(x, "out 0;year;year;out 0;", 2, 2);
        CHECK.same("grown()", x.grown(), 0);
        work(x, "keep 0 0;fill 0 30;year;", 3, 0);
        CHECK.same("grown()", x.grown(), 15);
        CHECK.same("cry(0, 1)", x.cry(0, 1), 32);
        work(x, "out 0;out 0;keep 0 1;loose 0;fill 0 1;", 1, 4);
        CHECK.same("grown()", x.grown(), 14);
        CHECK.same("cry(0, 3)", x.cry(0, 3), -2);
        CHECK.same("cry(0, 4)", x.cry(0, 4), 0);
        CHECK.same("told(6)", x.told(6), 1);
        CHECK.same("told(5)", x.told(5), 0);
        CHECK.same("room()", x.room(), 7);
        work(x, "year;year;", 2, 0);
        CHECK.same("an out one keeps its strength", x.cry(0, 1), 32);
        CHECK.same("an out one grows no older", x.cry(0, 2), 3);
        CHECK.same("another does", x.cry(1, 2), 5);
    }

    private static void years() {
        CryGorge x = Check.made("bay 7 2;cry 0 9;cry 0 9;cry 0 10;");
        work(x, "keep 1 0;keep 2 0;year;", 3, 0);
        CHECK.same("loose: 9 becomes 4", x.cry(0, 1), 4);
        CHECK.same("kept with a mate: 9 becomes 1", x.cry(1, 1), 1);
        CHECK.same("kept with a mate: 10 becomes 2", x.cry(2, 1), 2);
        CHECK.same("it loses no more than it has", x.cry(1, 4), 1);
        work(x, "year;", 1, 0);
        CHECK.same("gone", x.told(7), 6);
        CHECK.same("told(10)", x.told(10), 2);
        work(x, "again 40[year;year;year;year;];", 160, 0);
        CHECK.same("told(2)", x.told(2), 162);
    }

    private static void loops() {
        CryGorge x = Check.made("bay 0 1;cry 0 1;");
        work(x, "again 0[year;];loose 0;again 0[];loose 0;", 0, 2);
        work(x, "again 3[again 2[year;];loose 0;];", 6, 3);
        work(x, "again 20[again 20[loose 0;];];", 0, 189);
        work(x, "again 40[again 40[again 40[again 40[again 40[again 40[];];];];];];year;", 0, 0);
        CHECK.same("year", x.told(2), 6);
        work(x, "again 40[year;year;year;year;year;];", 199, 0);
        CHECK.same("200 steps, the again being one", x.told(2), 205);
        work(x, "again 40[year;year;year;year;year;];", 95, 104);
        CHECK.same("no year behind 300", x.told(2), 300);
        work(x, "year;", 0, 1);
        CHECK.same("years go by beyond 300, if asked", Check.law(x, "year/300*(year%300)"), 1);
        work(x, "keep 0 0;fill 0 30;", 2, 0);
        CHECK.same("ahead(2, 0)", x.ahead(2, 0), 29);
        CHECK.same("ahead(3, 0)", x.ahead(3, 0), 27);
    }

    private static void told() {
        CryGorge x = Check.made(GORGE);
        Check.heard(x, "0 1;");
        work(x, "keep 1 2;felt 2;out 0;year;year;year;out 0;year;year;", 8, 1);
        int[] due = {3, 4, 5, 3, 0, 2, 1, 12, 1, 1, 2 + 25 + 0 + 0};
        for (int what = 0; what < due.length; what++) {
            CHECK.same("told(" + what + ")", x.told(what), due[what]);
        }
        CHECK.illegal("told(-1)", () -> x.told(-1));
        CHECK.illegal("told(11)", () -> x.told(11));
    }

    private static void bayAndCry() {
        CryGorge x = Check.made(GORGE);
        work(x, "keep 3 2;keep 1 2;felt 2;", 3, 0);
        int[] bay = {5, 4, 10, 1, 0};
        for (int what = 0; what < bay.length; what++) {
            CHECK.same("bay(2, " + what + ")", x.bay(2, what), bay[what]);
        }
        CHECK.same("bay(0, 4)", x.bay(0, 4), 2);
        CHECK.same("bay(1, 4)", x.bay(1, 4), 1);
        int[] cry = {17, 30, 0, 2, 4, 30};
        for (int what = 0; what < cry.length; what++) {
            CHECK.same("cry(3, " + what + ")", x.cry(3, what), cry[what]);
        }
        CHECK.same("cry(2, 4) of a loose one", x.cry(2, 4), 5);
        CHECK.noSuch("bay(3, 9)", () -> x.bay(3, 9));
        CHECK.noSuch("bay(-1, 0)", () -> x.bay(-1, 0));
        CHECK.illegal("bay(0, 5)", () -> x.bay(0, 5));
        CHECK.illegal("bay(0, -1)", () -> x.bay(0, -1));
        CHECK.noSuch("cry(4, 9)", () -> x.cry(4, 9));
        CHECK.noSuch("cry(-1, 0)", () -> x.cry(-1, 0));
        CHECK.illegal("cry(0, 6)", () -> x.cry(0, 6));
        CHECK.illegal("cry(0, -1)", () -> x.cry(0, -1));
    }

    private static void undo() {
        CryGorge x = Check.made(GORGE);
        work(x, "keep 0 0;felt 0;year;loose 1;", 3, 1);
        work(x, "", 0, 0);
        work(x, "loose 0;bare 0;year;fill 2 3;loose 0;", 4, 1);
        CHECK.same("count(2)", x.count(2), 3);
        CHECK.same("undo()", x.undo(), 2);
        CHECK.same("told(9)", x.told(9), 0);
        CHECK.same("told(2)", x.told(2), 1);
        CHECK.same("told(4)", x.told(4), 0);
        CHECK.same("bay(0, 3)", x.bay(0, 3), 1);
        CHECK.same("bay(1, 3)", x.bay(1, 3), 0);
        CHECK.same("told(5)", x.told(5), 1);
        CHECK.same("cry(2, 1)", x.cry(2, 1), 4);
        CHECK.same("cry(2, 2)", x.cry(2, 2), 1);
        CHECK.same("undo() of a work without steps", x.undo(), 1);
        CHECK.same("undo()", x.undo(), 0);
        CHECK.same("told(10)", x.told(10), 99);
        CHECK.same("told(2)", x.told(2), 0);
        CHECK.same("told(4)", x.told(4), 1);
        CHECK.same("undo() of none", x.undo(), -1);
        Check.law(x, "5");
        Check.heard(x, "0 1;");
        work(x, "year;", 1, 0);
        x.undo();
        CHECK.same("the law stays", x.would(0, 0, 0, 0, 0, 0, 0, 0), 5);
        CHECK.same("what is heard stays", x.told(8), 1);
    }

    private static void images() {
        CryGorge x = Check.made(GORGE);
        CHECK.same("restore() of none", x.restore(), -1);
        work(x, "keep 0 0;loose 1;", 1, 1);
        CHECK.same("restore() of none", x.restore(), -1);
        CHECK.same("which does nothing", x.told(9), 1);
        CHECK.same("image()", x.image(), 1);
        work(x, "year;", 1, 0);
        CHECK.same("image()", x.image(), 2);
        CHECK.same("image()", x.image(), 3);
        CHECK.same("a 4th image", x.image(), -1);
        CHECK.same("count(0)", x.count(0), 3);
        x.undo();
        x.undo();
        work(x, "keep 3 2;keep 3 2;", 1, 1);
        Check.law(x, "6");
        CHECK.same("restore()", x.restore(), 2);
        CHECK.same("told(9)", x.told(9), 0);
        CHECK.same("told(2)", x.told(2), 1);
        CHECK.same("told(5)", x.told(5), 1);
        CHECK.same("count(2)", x.count(2), 2);
        CHECK.same("the law stays", x.would(0, 0, 0, 0, 0, 0, 0, 0), 6);
        CHECK.same("undo() behind restore()", x.undo(), 1);
        CHECK.same("told(2)", x.told(2), 0);
        CHECK.same("told(5)", x.told(5), 1);
        CHECK.same("restore()", x.restore(), 1);
        CHECK.same("restore()", x.restore(), 0);
        CHECK.same("told(2)", x.told(2), 0);
        CHECK.same("count(2)", x.count(2), 1);
        CHECK.same("undo()", x.undo(), 0);
        CHECK.same("told(5)", x.told(5), 0);
        CHECK.same("restore()", x.restore(), -1);
    }

    private static void refusals() {
        CryGorge x = Check.made(GORGE);
        x.image();
        CHECK.noSuch("way(9, 9, 9)", () -> x.way(9, 9, 9));
        CHECK.noSuch("lasts(9)", () -> x.lasts(9));
        CHECK.illegal("told(99)", () -> x.told(99));
        CHECK.same("restore()", x.restore(), 0);
        x.undo();
        Check.gorge(x, GORGE);
        CHECK.same("status(0)", x.status(0), 2);
        CHECK.same("status(1)", x.status(1), 1);
        CHECK.same("status(2)", x.status(2), -1);
        CHECK.same("status(-1)", x.status(-1), -1);
        CHECK.same("count(3)", x.count(3), -1);
        CHECK.same("count(-1)", x.count(-1), -1);
        x.feed(0, 0, 0, 0, 0);
        CHECK.same("count(1)", x.count(1), 20);
    }
}
