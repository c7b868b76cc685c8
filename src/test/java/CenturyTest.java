/** Promises 32 and 33: years by chance, here drawn once more, in another way. */
public final class CenturyTest {
    private static final Check CHECK = new Check();
    private static final String GORGE = "bay 3 2;bay 1 1;bay 2 4;cry 10 90;cry 22 80;cry 5 70;cry 17 99;felt 2;term 1;";

    private static long seed;
    private static int loosed;
    private static int bared;

    public static void main(String[] args) {
        centuries();
        without();
        spans();
        ranges();
        CHECK.end();
    }

    private static CryGorge made() {
        CryGorge x = Check.made(GORGE);
        CHECK.same("work", Check.work(x, "keep 0 0;keep 1 0;keep 2 1;keep 3 2;felt 0;felt 2;"), 6);
        return x;
    }

    private static int draw(int sides) {
        seed = (seed * 1103515245L + 12345L) & 0xffffffffL;
        return (int) (seed >> 16 & 0x7fff) % sides;
    }

    /** Does a century of five years by works of another object, which takes just as many. */
    private static CryGorge livedThrough(int from, int years, int q, int m) {
        CryGorge x = made();
        seed = from & 0xffffffffL;
        loosed = 0;
        bared = 0;
        for (int year = 0; year < years; year++) {
            if (draw(16) < q) {
                loosed += Check.work(x, "loose " + draw(4) + ";");
            }
            if (draw(16) < m) {
                bared += Check.work(x, "bare " + draw(3) + ";");
            }
            Check.work(x, "year;");
        }
        return x;
    }

    private static void centuries() {
        int[][] tries = {{5, 5, 8, 8}, {-7, 5, 16, 16}, {2147483647, 5, 16, 0}, {9, 5, 0, 16}, {123456789, 5, 5, 11}};
        CryGorge x = made();
        for (int[] t : tries) {
            String call = "century(" + t[0] + ", " + t[1] + ", " + t[2] + ", " + t[3] + ", ";
            CryGorge y = livedThrough(t[0], t[1], t[2], t[3]);
            CHECK.same(call + "0)", x.century(t[0], t[1], t[2], t[3], 0), y.told(10));
            CHECK.same(call + "1)", x.century(t[0], t[1], t[2], t[3], 1), y.told(7));
            CHECK.same(call + "2)", x.century(t[0], t[1], t[2], t[3], 2), loosed);
            CHECK.same(call + "3)", x.century(t[0], t[1], t[2], t[3], 3), bared);
        }
        CHECK.same("nothing stays changed", x.told(10), 339);
        CHECK.same("nor the year", x.told(2), 0);
        CHECK.same("nor the doors", x.told(4), 0);
        CHECK.same("nor who is kept", x.told(5), 15);
        CHECK.same("without chance it is as ahead", x.century(1, 96, 0, 0, 0), x.ahead(96, 0));
        CHECK.same("each is loosed once at most", x.century(77, 96, 16, 16, 2), 4);
        CHECK.same("each door is bared once at most", x.century(77, 96, 16, 16, 3), 2);
        CHECK.same("all are gone", x.century(77, 96, 16, 16, 1), 15);
    }

    private static void without() {
        CryGorge empty = new CryGorge();
        for (int what = 0; what <= 3; what++) {
            CHECK.same("an empty gorge", empty.century(5, 9, 16, 16, what), 0);
        }
        // Without cries only the draws for the door count: 16 first, then the bay.
        CryGorge x = Check.made("bay 1 1;bay 1 1;bay 1 1;felt 3;");
        Check.work(x, "felt 0;felt 1;felt 2;");
        seed = 41;
        int bare = 0;
        int felted = 7;
        for (int year = 0; year < 3; year++) {
            draw(16);
            if (draw(16) < 9) {
                int bay = draw(3);
                bare += felted >> bay & 1;
                felted &= ~(1 << bay);
            }
        }
        CHECK.same("without cries", x.century(41, 3, 16, 9, 3), bare);
        CryGorge one = Check.made("bay 1 1;cry 1 2;");
        Check.work(one, "keep 0 0;felt 0;");
        CHECK.same("the one cry", one.century(8, 1, 16, 16, 2), 1);
        CHECK.same("the one door", one.century(8, 1, 16, 16, 3), 1);
        CHECK.same("1 is left", one.century(8, 1, 16, 16, 0), 1);
        CHECK.same("so it is not gone", one.span(8, 3, 1, 16, 16, 2, 0), 3);
        CHECK.same("the most is 0", one.span(8, 3, 2, 16, 16, 1, 0), 0);
    }

    private static void spans() {
        CryGorge x = made();
        int[] froms = {5, 2147483645};
        for (int from : froms) {
            int least = 9999;
            int most = 0;
            int[] alive = new int[4];
            for (int i = 0; i < 20; i++) {
                CryGorge y = livedThrough(from + i, 5, 6, 6);
                least = Math.min(least, y.told(10));
                most = Math.max(most, y.told(10));
                for (int cry = 0; cry < 4; cry++) {
                    alive[cry] += y.cry(cry, 1) > 0 ? 1 : 0;
                }
            }
            CHECK.same("the least", x.span(from, 20, 5, 6, 6, 0, 0), least);
            CHECK.same("the most", x.span(from, 20, 5, 6, 6, 1, 0), most);
            for (int cry = 0; cry < 4; cry++) {
                CHECK.same("not gone", x.span(from, 20, 5, 6, 6, 2, cry), alive[cry]);
            }
        }
        CHECK.same("one seed", x.span(5, 1, 30, 9, 9, 0, 0), x.century(5, 30, 9, 9, 0));
        int some = x.span(5, 20, 30, 9, 9, 2, 1);
        int due = 0;
        for (int i = 0; i < 20; i++) {
            due += 1 - (x.century(5 + i, 30, 9, 9, 1) >> 1 & 1);
        }
        CHECK.same("not gone behind 30 years", some, due);
        CHECK.same("nothing stays changed", x.told(10), 339);
    }

    private static void ranges() {
        CryGorge x = made();
        int[] least = {1, 0, 0, 0};
        int[] most = {96, 16, 16, 3};
        for (int i = 0; i < 4; i++) {
            int at = i;
            CHECK.illegal("century below, " + i, () -> centuryWith(x, at, least[at] - 1));
            CHECK.illegal("century above, " + i, () -> centuryWith(x, at, most[at] + 1));
            CHECK.same("century at its most, " + i, Check.outcome(() -> centuryWith(x, at, most[at]) * 0), 0);
        }
        int[] spanLeast = {1, 1, 0, 0, 0, 0};
        int[] spanMost = {20, 96, 16, 16, 2, 3};
        for (int i = 0; i < 6; i++) {
            int at = i;
            CHECK.illegal("span below, " + i, () -> spanWith(x, at, spanLeast[at] - 1));
            CHECK.illegal("span above, " + i, () -> spanWith(x, at, spanMost[at] + 1));
            CHECK.same("span at its most, " + i, Check.outcome(() -> spanWith(x, at, spanMost[at]) * 0), 0);
        }
        CHECK.same("status(0)", x.status(0), 0);
        CHECK.same("status(1)", x.status(1), 20);
    }

    private static int centuryWith(CryGorge x, int at, int value) {
        int[] n = {1, 0, 0, 0};
        n[at] = value;
        return x.century(3, n[0], n[1], n[2], n[3]);
    }

    private static int spanWith(CryGorge x, int at, int value) {
        int[] n = {1, 1, 0, 0, 0, 0};
        n[at] = value;
        return x.span(3, n[0], n[1], n[2], n[3], n[4], n[5]);
    }
}
