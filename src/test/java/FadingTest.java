/** Promises 4 and 12 to 15: the law, and what goes by it. */
public final class FadingTest {
    private static final Check CHECK = new Check();

    public static void main(String[] args) {
        values();
        names();
        wouldRanges();
        ahead();
        lasts();
        ripe();
        CHECK.end();
    }

    private static void fades(String law, int due) {
        CryGorge x = new CryGorge();
        CHECK.same("law " + law, Check.law(x, law), 1);
        CHECK.same("fades by " + law, x.would(20, 3, 1, 98, 60, 400, 5, 300), due);
    }

    private static void values() {
        fades("7-2-3", 2);
        fades("2+3*4", 14);
        fades("(2+3)*4", 20);
        fades("50/7/2", 3);
        fades("50%7*3", 3);
        fades("0-7", 0);
        fades("999", 99);
        fades("100", 99);
        fades("5/0", 0);
        fades("5%0+1", 1);
        fades("50+(0-7)/2", 47);
        fades("50+(0-7)%4", 47);
        fades("50+7%(0-4)", 53);
        fades("50-7/(0-2)", 53);
        fades("least[9,most[3,5]]", 5);
        fades("most[0-9,least[3,5]]", 3);
        // 999 to the 4th wraps to -426,416,671.
        fades("0-999*999*999*999/999/999/9", 47);
        // 2 to the 31st is the least number, and stays so by -1.
        fades("512*512*512*16/(0-1)+512*512*512*16+7", 7);
        fades("512*512*512*16%(0-1)+5", 5);
    }

    private static void names() {
        fades("fade", 20);
        fades("mates", 3);
        fades("felt", 1);
        fades("strength", 98);
        fades("pitch", 60);
        fades("age/10", 40);
        fades("bay", 5);
        fades("year/10", 30);
        CryGorge x = Check.made("bay 3 2;bay 1 1;cry 10 20;cry 22 40;term 3;felt 1;");
        CHECK.same("usual law", x.would(3, 2, 1, 0, 0, 0, 0, 0), 3);
        Check.law(x, "fade*2+mates*3-felt*4+strength/10+pitch%3+age-bay+least[year,2]");
        CHECK.same("work", Check.work(x, "keep 0 0;keep 1 0;felt 0;year;"), 4);
        // 6 + 3 - 4 + 2 + 1 + 0 - 0 + 0 = 8, and 6 + 3 - 4 + 4 + 1 = 10
        CHECK.same("cry(0, 1)", x.cry(0, 1), 12);
        CHECK.same("cry(1, 1)", x.cry(1, 1), 30);
        // 6 + 3 - 4 + 1 + 1 + 1 - 0 + 1 = 9
        CHECK.same("cry(0, 4)", x.cry(0, 4), 9);
    }

    private static void wouldRanges() {
        CryGorge x = new CryGorge();
        int[] most = {20, 3, 1, 99, 60, 400, 5, 300};
        for (int i = 0; i < most.length; i++) {
            int at = i;
            CHECK.illegal("would, number " + i + " below", () -> wouldWith(x, at, -1));
            CHECK.illegal("would, number " + i + " above", () -> wouldWith(x, at, most[at] + 1));
            CHECK.same("would, number " + i + " at its most", Check.outcome(() -> wouldWith(x, at, most[at]) * 0), 0);
        }
        CHECK.same("status(1)", x.status(1), 16);
    }

    private static int wouldWith(CryGorge x, int at, int value) {
        int[] n = new int[8];
        n[at] = value;
        return x.would(n[0], n[1], n[2], n[3], n[4], n[5], n[6], n[7]);
    }

    private static void ahead() {
        CryGorge x = Check.made("bay 3 2;cry 10 20;cry 22 40;cry 1 7;");
        Check.work(x, "keep 0 0;");
        CHECK.same("ahead(0, 0)", x.ahead(0, 0), 67);
        CHECK.same("ahead(1, 0)", x.ahead(1, 0), 17 + 20 + 3);
        CHECK.same("ahead(3, 1)", x.ahead(3, 1), 4);
        CHECK.same("ahead(99, 1)", x.ahead(99, 1), 7);
        CHECK.same("nothing stays changed", x.told(10), 67);
        CHECK.same("nor the year", x.told(2), 0);
        CHECK.illegal("ahead(-1, 0)", () -> x.ahead(-1, 0));
        CHECK.illegal("ahead(100, 0)", () -> x.ahead(100, 0));
        CHECK.illegal("ahead(0, 2)", () -> x.ahead(0, 2));
        CHECK.illegal("ahead(0, -1)", () -> x.ahead(0, -1));
    }

    private static void lasts() {
        CryGorge x = Check.made("bay 1 1;bay 0 1;cry 1 60;cry 1 61;cry 1 1;");
        CHECK.same("loose, 60 30 15 7 3 1 0", x.lasts(0), 6);
        Check.work(x, "keep 0 0;keep 1 1;year;");
        CHECK.same("59 left", x.lasts(0), 59);
        CHECK.same("never", x.lasts(1), -1);
        CHECK.same("gone", x.lasts(2), 0);
        x.undo();
        Check.work(x, "keep 0 0;");
        CHECK.same("60 years", x.lasts(0), 60);
        x.undo();
        Check.work(x, "keep 1 0;");
        CHECK.same("61 years are too many", x.lasts(1), -1);
        CHECK.noSuch("lasts(3)", () -> x.lasts(3));
        CHECK.noSuch("lasts(-1)", () -> x.lasts(-1));
    }

    private static void ripe() {
        CryGorge x = Check.made("bay 1 1;cry 1 60;cry 1 61;term 4;");
        Check.work(x, "keep 0 0;");
        CHECK.same("kept for 4 years", x.ripe(0), 56);
        CHECK.same("loose for 4 years", x.ripe(1), 3);
        Check.work(x, "year;");
        CHECK.same("kept for 3 more", x.ripe(0), 56);
        Check.work(x, "year;year;year;year;");
        CHECK.same("as old already", x.ripe(0), 55);
        CHECK.same("out", Check.work(x, "out 0;year;year;"), 3);
        CHECK.same("out", x.ripe(0), 55);
        CHECK.noSuch("ripe(2)", () -> x.ripe(2));
        CHECK.noSuch("ripe(-1)", () -> x.ripe(-1));
    }
}
