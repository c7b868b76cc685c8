/** Terms, ==== 3: the edges of CENTURY and DRAW. The draws were reckoned by hand, for the seeds -1, 0 and 1. */
public final class TermCenturyTest {
    public static void main(String[] args) throws Exception {
        Edges.run(TermCenturyTest.class);
    }

    /** Two kept cries that lose nothing, 8 and 50 strong, and three felted doors. */
    private static CryGorge made(Check c) {
        CryGorge x = Check.made("bay 0 2;bay 0 2;bay 0 2;cry 0 8;cry 0 50;");
        c.works(x, "keep 0 0;keep 1 1;felt 0;felt 1;felt 2;", 5, 0);
        return x;
    }

    private static void century(Check c, CryGorge x, int[] asked, int strength, int gone, int loosed, int bared) {
        int[] due = {strength, gone, loosed, bared};
        for (int what = 0; what <= 3; what++) {
            c.same("century(" + asked[0] + ", " + asked[1] + ", " + asked[2] + ", " + asked[3] + ", " + what + ")",
                    x.century(asked[0], asked[1], asked[2], asked[3], what), due[what]);
        }
    }

    private static int[] by(int seed, int years, int q, int m) {
        return new int[] {seed, years, q, m};
    }

    // By the seed 1 bits 16 to 30 are 16838, 5758, 10113, 17515, 31051, 5627, 23010, 7419.

    @Says("DRAW by 16 below Q: the CRY that is DRAW by how many there are is loose (as by loose, if it can)")
    static void termCenturyBelowQ(Check c) {
        CryGorge x = made(c);
        century(c, x, by(1, 1, 0, 0), 58, 0, 0, 0);
        // 16838 by 16 leaves 6, and 5758 by 2 leaves 0: the cry 0 is halved.
        century(c, x, by(1, 1, 6, 0), 58, 0, 0, 0);
        century(c, x, by(1, 1, 7, 0), 54, 0, 1, 0);
        century(c, x, by(1, 1, 16, 0), 54, 0, 1, 0);
        // By the seed 5 the first leaves 15: only Q 16 is above that; 8457 by 2 leaves 1.
        century(c, x, by(5, 1, 15, 0), 58, 0, 0, 0);
        century(c, x, by(5, 1, 16, 0), 33, 0, 1, 0);
        // By the seed 0 the first leaves 0, which is below 1 and not below 0.
        century(c, x, by(0, 1, 0, 0), 58, 0, 0, 0);
        century(c, x, by(0, 1, 1, 0), 54, 0, 1, 0);
    }

    @Says("DRAW by 16 below M: the door of the BAY that is DRAW by how many there are is bare (as by bare, if it can)")
    static void termCenturyBelowM(Check c) {
        CryGorge x = made(c);
        // Nobody is loosed: 5758 by 16 leaves 14, and 10113 by 3 leaves 0.
        century(c, x, by(1, 1, 0, 14), 58, 0, 0, 0);
        century(c, x, by(1, 1, 0, 15), 58, 0, 0, 1);
        // One is loosed: 10113 by 16 leaves 1, and 17515 by 3 leaves 1.
        century(c, x, by(1, 1, 7, 1), 54, 0, 1, 0);
        century(c, x, by(1, 1, 7, 2), 54, 0, 1, 1);
        c.works(x, "bare 0;", 1, 0);
        century(c, x, by(1, 1, 0, 15), 58, 0, 0, 0);
        century(c, x, by(1, 1, 7, 2), 54, 0, 1, 1);
        c.works(x, "felt 0;bare 1;", 2, 0);
        century(c, x, by(1, 1, 0, 15), 58, 0, 0, 1);
        century(c, x, by(1, 1, 7, 2), 54, 0, 1, 0);
    }

    @Says("the CRY that is DRAW by how many there are is loose")
    static void termCenturyOfOneCryAndOneBay(Check c) {
        CryGorge x = Check.made("bay 0 1;cry 0 8;");
        c.works(x, "keep 0 0;felt 0;", 2, 0);
        century(c, x, by(1, 1, 6, 14), 8, 0, 0, 0);
        century(c, x, by(1, 1, 7, 1), 4, 0, 1, 0);
        century(c, x, by(1, 1, 7, 2), 4, 0, 1, 1);
        century(c, x, by(1, 1, 0, 15), 8, 0, 0, 1);
    }

    @Says("(as by loose, if it can)")
    static void termCenturyOneThatCanNotBeLoosedIsDrawnAllTheSame(Check c) {
        CryGorge x = made(c);
        c.works(x, "loose 0;", 1, 0);
        century(c, x, by(1, 1, 7, 1), 54, 0, 0, 0);
        century(c, x, by(1, 1, 7, 2), 54, 0, 0, 1);
        CryGorge out = Check.made("bay 0 2;cry 0 8;term 1;");
        c.works(out, "keep 0 0;year;out 0;", 3, 0);
        century(c, out, by(1, 96, 16, 16), 8, 0, 0, 0);
    }

    @Says("(as by bare, if it can); then year.")
    static void termCenturyDoorsAreBaredAheadOfTheYear(Check c) {
        CryGorge x = Check.made("bay 2 1;cry 0 8;");
        c.works(x, "keep 0 0;felt 0;", 2, 0);
        century(c, x, by(1, 1, 0, 14), 8, 0, 0, 0);
        century(c, x, by(1, 1, 0, 15), 6, 0, 0, 1);
        // The felt that is bared is gone from the door for all years behind it.
        century(c, x, by(1, 4, 0, 16), 0, 1, 0, 1);
        century(c, x, by(1, 3, 0, 16), 2, 0, 0, 1);
    }

    @Says("Without CRIES, without BAYS there is no such (second) DRAW.")
    static void termCenturyWithoutCriesOrBays(Check c) {
        CryGorge x = Check.made("bay 0 1;bay 0 1;bay 0 1;");
        c.works(x, "felt 0;", 1, 0);
        // The door is the second DRAW, 5758 by 16 leaves 14, the bay the third, 10113 by 3 leaves 0.
        century(c, x, by(1, 1, 16, 14), 0, 0, 0, 0);
        century(c, x, by(1, 1, 16, 15), 0, 0, 0, 1);
        c.works(x, "bare 0;felt 1;", 2, 0);
        century(c, x, by(1, 1, 16, 15), 0, 0, 0, 0);
        century(c, x, by(1, 1, 0, 14), 0, 0, 0, 0);
        century(c, Check.made("cry 0 9;"), by(1, 1, 16, 16), 4, 0, 0, 0);
        century(c, Check.made("cry 0 9;"), by(1, 96, 16, 16), 0, 1, 0, 0);
        century(c, new CryGorge(), by(1, 96, 16, 16), 0, 0, 0, 0);
    }

    @Says("DRAW: the SEED (32 bits) becomes itself times 1,103,515,245, and 12,345 (it wraps); its bits 16 to 30, what is left of them.")
    static void termDrawWraps(Check c) {
        CryGorge x = made(c);
        // -1: 15929 by 16 leaves 9, 4409 by 2 leaves 1; the bit 31 is none of those that count.
        for (int seed : new int[] {-1, Integer.MAX_VALUE}) {
            century(c, x, by(seed, 1, 9, 0), 58, 0, 0, 0);
            century(c, x, by(seed, 1, 10, 0), 33, 0, 1, 0);
        }
        // 0: 0 and 21468, of which by 2 nothing is left
        for (int seed : new int[] {0, Integer.MIN_VALUE}) {
            century(c, x, by(seed, 1, 1, 0), 54, 0, 1, 0);
        }
    }

    @Says("A CENTURY by a SEED: for so many YEARS")
    static void termCenturyYears1To96(Check c) {
        CryGorge x = Check.made("bay 1 1;bay 0 1;cry 0 97;cry 0 50;");
        c.works(x, "keep 0 0;keep 1 1;", 2, 0);
        century(c, x, by(1, 1, 0, 0), 146, 0, 0, 0);
        century(c, x, by(1, 95, 0, 0), 52, 0, 0, 0);
        century(c, x, by(1, 96, 0, 0), 51, 0, 0, 0);
        c.illegal("97 years", () -> x.century(1, 97, 0, 0, 0));
        c.illegal("no year", () -> x.century(1, 0, 0, 0, 0));
    }
}
