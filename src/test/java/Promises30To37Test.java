/** Edges of the promises 30 to 37: who is grown, room, centuries, images, refusals, counts. */
public final class Promises30To37Test {
    private static final String LAND = "bay 3 2;bay 1 1;cry 10 20;cry 5 9;cry 0 1;term 2;felt 2;";

    public static void main(String[] args) throws Exception {
        Edges.run(Promises30To37Test.class);
    }

    @Says("CRIES (bits) that could be let out now.")
    static void promise30GrownByTheTerm(Check c) {
        CryGorge x = Check.made(LAND);
        c.same("at first", x.grown(), 0);
        Check.work(x, "keep 0 0;year;");
        c.same("a year too young", x.grown(), 0);
        Check.work(x, "year;");
        c.same("all: a kept, a loose, a gone one", x.grown(), 7);
        Check.work(x, "out 1;");
        c.same("out already", x.grown(), 5);
        Check.work(x, "year;");
        c.same("older", x.grown(), 5);
        Check.work(x, "out 0;out 2;");
        c.same("none", x.grown(), 0);
        c.same("no cries", new CryGorge().grown(), 0);
        CryGorge full = Check.made("cry 0 1;".repeat(8) + "term 1;");
        Check.work(full, "year;");
        c.same("all eight", full.grown(), 255);
    }

    @Says("Room that is left in all BAYS together.")
    static void promise31RoomLeft(Check c) {
        c.same("no bays", new CryGorge().room(), 0);
        c.same("the most", Check.made("bay 0 4;".repeat(6)).room(), 24);
        CryGorge x = Check.made(LAND);
        c.same("empty", x.room(), 3);
        Check.work(x, "keep 0 0;keep 1 0;keep 2 1;");
        c.same("full", x.room(), 0);
        Check.work(x, "keep 2 1;loose 0;");
        c.same("one loose", x.room(), 1);
        Check.work(x, "year;year;out 2;");
        c.same("one out", x.room(), 2);
    }

    @Says("Room that is left in all BAYS together.")
    static void promise31RoomOfGoneOnes(Check c) {
        CryGorge x = Check.made("bay 9 2;cry 0 1;");
        Check.work(x, "keep 0 0;year;");
        c.same("gone", x.told(7), 1);
        c.same("it is there still", x.room(), 1);
    }

    @Says("A CENTURY of so many YEARS (1 to 96), Q, M (0 to 16)")
    static void promise32CenturyRanges(Check c) {
        CryGorge x = Check.made(LAND);
        c.range("years", 1, 96, years -> x.century(1, years, 0, 0, 0));
        c.range("Q", 0, 16, q -> x.century(1, 1, q, 0, 0));
        c.range("M", 0, 16, m -> x.century(1, 1, 0, m, 0));
        c.range("what", 0, 3, what -> x.century(1, 1, 16, 16, what));
        c.refused(x, "century(1, 97, 0, 0, 0)", Check.ILLEGAL, () -> x.century(1, 97, 0, 0, 0));
        c.refused(x, "century(1, 0, 0, 0, 0)", Check.ILLEGAL, () -> x.century(1, 0, 0, 0, 0));
        CryGorge y = Check.made(LAND);
        for (int seed : new int[] {Integer.MIN_VALUE, -1, 0, Integer.MAX_VALUE}) {
            c.same("any seed", y.century(seed, 96, 16, 16, 0), 0);
            c.same("all are gone", y.century(seed, 96, 16, 16, 1), 7);
        }
        c.illegal("an empty gorge, 97 years", () -> new CryGorge().century(1, 97, 0, 0, 0));
    }

    @Says("0 STRENGTH of all then, 1 GONE ones then (bits), 2 how often one was loosed, 3 how often a door was bared.")
    static void promise32CenturyEach(Check c) {
        CryGorge x = Check.made("bay 0 2;bay 0 2;bay 0 2;cry 0 8;cry 0 50;");
        c.works(x, "keep 0 0;keep 1 1;felt 0;felt 1;felt 2;", 5, 0);
        // By Q 16, M 16 and the seed 1: the cry 5758 by 2, the bay 17515 by 3; then 5627 by 2, 7419 by 3.
        int[] one = {54, 0, 1, 1};
        int[] two = {27, 0, 2, 2};
        int[] most = {0, 3, 2, 3};
        for (int what = 0; what <= 3; what++) {
            c.same("a year, " + what, x.century(1, 1, 16, 16, what), one[what]);
            c.same("two years, " + what, x.century(1, 2, 16, 16, what), two[what]);
            c.same("96 years, " + what, x.century(1, 96, 16, 16, what), most[what]);
        }
    }

    @Says("Of so many SEEDS (1 to 20; seed, seed and 1, ..): 0 the least STRENGTH of all then, 1 the most, 2 by how many a CRY is not GONE then.")
    static void promise33SpanRanges(Check c) {
        CryGorge x = Check.made(LAND);
        c.range("seeds", 1, 20, many -> x.span(1, many, 1, 0, 0, 0, 0));
        c.range("years", 1, 96, years -> x.span(1, 1, years, 0, 0, 0, 0));
        c.range("Q", 0, 16, q -> x.span(1, 1, 1, q, 0, 0, 0));
        c.range("M", 0, 16, m -> x.span(1, 1, 1, 0, m, 0, 0));
        c.range("what", 0, 2, what -> x.span(1, 20, 1, 16, 16, what, 0));
        c.refused(x, "span(1, 21, 1, 0, 0, 0, 0)", Check.ILLEGAL, () -> x.span(1, 21, 1, 0, 0, 0, 0));
    }

    @Says("(IllegalArgumentException: no such CRY, also for 0, 1.)")
    static void promise33SpanNoSuchCry(Check c) {
        CryGorge x = Check.made(LAND);
        for (int what = 0; what <= 2; what++) {
            int asked = what;
            c.range("the cry", 0, 2, cry -> x.span(1, 1, 1, 0, 0, asked, cry));
            c.illegal("no cries", () -> new CryGorge().span(1, 1, 1, 0, 0, asked, 0));
        }
        c.same("status(0)", x.status(0), 0);
        c.same("status(1)", x.status(1), 12);
        c.refused(x, "span(1, 1, 1, 0, 0, 0, 3)", Check.ILLEGAL, () -> x.span(1, 1, 1, 0, 0, 0, 3));
    }

    @Says("Of so many SEEDS (1 to 20; seed, seed and 1, ..): 0 the least STRENGTH of all then, 1 the most, 2 by how many a CRY is not GONE then.")
    static void promise33SpanOfSeedsThatWrap(Check c) {
        CryGorge x = Check.made("bay 0 2;bay 0 2;cry 0 1;cry 0 50;");
        c.works(x, "keep 0 0;keep 1 1;", 2, 0);
        // By Q 1 the seeds 0 and the least of all loose the cry 0, the seeds ahead of them none.
        for (int seed : new int[] {-1, Integer.MAX_VALUE}) {
            c.same("one seed, the least", x.span(seed, 1, 1, 1, 0, 0, 0), 51);
            c.same("two seeds, the least", x.span(seed, 2, 1, 1, 0, 0, 0), 50);
            c.same("two seeds, the most", x.span(seed, 2, 1, 1, 0, 1, 0), 51);
            c.same("by one it is not gone", x.span(seed, 2, 1, 1, 0, 2, 0), 1);
            c.same("by both it is not gone", x.span(seed, 2, 1, 1, 0, 2, 1), 2);
        }
        for (int what = 0; what <= 1; what++) {
            int least = 9999;
            int most = -1;
            int there = 0;
            for (int i = 0; i < 20; i++) {
                int strength = x.century(Integer.MAX_VALUE - 9 + i, 3, 4, 0, 0);
                least = Math.min(least, strength);
                most = Math.max(most, strength);
                there += 1 - (x.century(Integer.MAX_VALUE - 9 + i, 3, 4, 0, 1) & 1);
            }
            c.same("of 20", x.span(Integer.MAX_VALUE - 9, 20, 3, 4, 0, what, 0), what == 0 ? least : most);
            c.same("of 20", x.span(Integer.MAX_VALUE - 9, 20, 3, 4, 0, 2, 0), there);
        }
    }

    @Says("An IMAGE of all that WORK changes, and of WORKS that can be undone: how many there are; -1: there are 3.")
    static void promise34ImageThreeAreThere(Check c) {
        CryGorge x = Check.made(LAND);
        for (int images = 1; images <= 3; images++) {
            c.same("image()", x.image(), images);
            c.same("count(0)", x.count(0), images);
            Check.work(x, "year;");
        }
        String before = Look.all(x);
        c.same("a 4th", x.image(), -1);
        c.same("a 4th, again", x.image(), -1);
        c.alike("nothing is changed", Look.all(x), before);
        c.same("restore()", x.restore(), 2);
        c.same("as by the third", x.told(2), 2);
        c.same("one fits again", x.image(), 3);
        c.same("restore()", x.restore(), 2);
        c.same("restore()", x.restore(), 1);
        c.same("as by the second", x.told(2), 1);
        c.same("of an empty gorge", new CryGorge().image(), 1);
    }

    @Says("An IMAGE of all that WORK changes, and of WORKS that can be undone: how many there are; -1: there are 3.")
    static void promise34ImageOfAllThatWorkChanges(Check c) {
        CryGorge x = Check.made(LAND);
        c.works(x, "keep 0 0;keep 1 1;felt 0;year;year;out 2;fill 1 3;loose 2;", 7, 1);
        c.works(x, "year;", 1, 0);
        String kept = Look.keeping(x);
        c.same("image()", x.image(), 1);
        c.alike("an image changes nothing", Look.keeping(x), kept);
        c.works(x, "loose 0;keep 1 0;bare 0;felt 1;out 0;fill 1 30;year;year;", 8, 0);
        c.same("undo()", x.undo(), 2);
        c.same("undo()", x.undo(), 1);
        c.same("undo()", x.undo(), 0);
        c.works(x, "fill 0 5;", 1, 0);
        c.works(x, "year;year;year;", 3, 0);
        c.works(x, "year;", 1, 0);
        c.same("restore()", x.restore(), 0);
        c.alike("all that", Look.keeping(x), kept);
        c.same("works that can be undone", x.count(2), 2);
        c.same("undo()", x.undo(), 1);
        c.same("the year", x.told(2), 2);
        c.same("undo()", x.undo(), 0);
        c.alike("as at first", Look.keeping(x), Look.keeping(Check.made(LAND)));
        c.same("undo()", x.undo(), -1);
    }

    @Says("All that is as in the latest IMAGE, which is gone: how many are left; -1: there is none.")
    static void promise35RestoreNoneThere(Check c) {
        CryGorge x = new CryGorge();
        c.same("restore()", x.restore(), -1);
        c.same("gorge", Check.gorge(x, LAND), 3);
        c.works(x, "keep 0 0;loose 1;", 1, 1);
        String before = Look.all(x);
        c.same("restore()", x.restore(), -1);
        c.alike("nothing is changed", Look.all(x), before);
        c.same("image()", x.image(), 1);
        c.same("restore()", x.restore(), 0);
        c.same("it is gone", x.restore(), -1);
        c.same("count(0)", x.count(0), 0);
    }

    @Says("All that is as in the latest IMAGE, which is gone: how many are left; -1: there is none.")
    static void promise35RestoreLeavesLawHeardTapeAndFault(Check c) {
        CryGorge x = Check.made(LAND);
        Check.law(x, "5");
        Check.heard(x, "0 1;");
        c.same("image()", x.image(), 1);
        Check.heard(x, "0 1;1 1;");
        Check.law(x, "6");
        Check.law(x, "6+");
        Check.feed(x, "term 9;");
        c.same("restore()", x.restore(), 0);
        c.same("the law", x.would(0, 0, 0, 0, 0, 0, 0, 0), 6);
        c.same("what is heard", x.told(8), 2);
        c.same("the fault", x.fault(), 2);
        c.same("the tape", x.count(1), 20);
        c.same("and its bytes", x.gorge(7), 0);
        c.same("the term", x.told(3), 9);
    }

    @Says("How many calls were refused: 0 NoSuchElementException, 1 IllegalArgumentException; NONE for others. (No IMAGE keeps it.)")
    static void promise36StatusNoImageKeepsIt(Check c) {
        CryGorge x = Check.made(LAND);
        c.noSuch("bay(9, 9)", () -> x.bay(9, 9));
        Check.work(x, "year;");
        x.image();
        c.noSuch("cry(9, 9)", () -> x.cry(9, 9));
        c.illegal("told(99)", () -> x.told(99));
        c.same("restore()", x.restore(), 0);
        c.same("status(0)", x.status(0), 2);
        c.same("status(1)", x.status(1), 1);
        c.same("undo()", x.undo(), 0);
        c.same("gorge(0)", x.gorge(0), 0);
        c.same("status(0)", x.status(0), 2);
        c.same("status(1)", x.status(1), 1);
    }

    @Says("How many calls were refused: 0 NoSuchElementException, 1 IllegalArgumentException; NONE for others.")
    static void promise36StatusNoneForOthers(Check c) {
        CryGorge x = Check.made(LAND);
        for (int what : new int[] {Integer.MIN_VALUE, -2, -1, 2, 3, Integer.MAX_VALUE}) {
            c.same("status(" + what + ")", x.status(what), -1);
        }
        c.same("which are not refused", x.status(1), 0);
        // Answers below 0 are no refusals, nor are refused steps.
        x.undo();
        x.restore();
        Check.law(x, "x");
        Check.work(x, "loose 0;");
        c.same("status(0)", x.status(0), 0);
        c.same("status(1)", x.status(1), 0);
    }

    @Says("How many calls were refused: 0 NoSuchElementException, 1 IllegalArgumentException")
    static void promise36StatusCountsEachCallOnce(Check c) {
        CryGorge x = Check.made(LAND);
        Check.Call[] noSuch = {() -> x.bay(9, 9), () -> x.cry(9, 9), () -> x.lasts(9), () -> x.ripe(9), () -> x.planned(-1, 9),
            () -> x.interval(9, 9), () -> x.way(9, 9, 9), () -> x.round(9, -1), () -> x.share(9, -1, -1), () -> x.kindest(9, 9)};
        for (int i = 0; i < noSuch.length; i++) {
            c.noSuch("call " + i, noSuch[i]);
            c.same("status(0) behind call " + i, x.status(0), i + 1);
        }
        c.same("status(1)", x.status(1), 0);
        Check.Call[] illegal = {() -> x.gorge(-1), () -> x.law(-1), () -> x.work(-1), () -> x.heard(-1), () -> x.told(-1),
            () -> x.bay(0, 9), () -> x.cry(0, 9), () -> x.would(-1, -1, -1, -1, -1, -1, -1, -1), () -> x.ahead(-1, -1),
            () -> x.plan(-1), () -> x.planned(-1, 0), () -> x.whose(-1), () -> x.listen(-1), () -> x.pairs(-1, -1),
            () -> x.chord(-1, -1), () -> x.way(0, 0, 9), () -> x.round(0, -1), () -> x.prices(-1, -1, -1),
            () -> x.share(0, -1, -1), () -> x.loudest(-1), () -> x.kindest(0, 9), () -> x.century(0, -1, -1, -1, -1),
            () -> x.span(0, -1, -1, -1, -1, -1, -1)};
        for (int i = 0; i < illegal.length; i++) {
            c.illegal("call " + i, illegal[i]);
            c.same("status(1) behind call " + i, x.status(1), i + 1);
        }
        c.same("status(0)", x.status(0), noSuch.length);
    }

    @Says("0 IMAGES, 1 bytes of the TAPE, 2 WORKS that can be undone; NONE for others.")
    static void promise37Count(Check c) {
        CryGorge x = Check.made(LAND);
        for (int what = 0; what <= 2; what++) {
            c.same("count(" + what + ") at first", x.count(what), 0);
        }
        for (int what : new int[] {Integer.MIN_VALUE, -2, -1, 3, 4, Integer.MAX_VALUE}) {
            c.same("count(" + what + ")", x.count(what), -1);
        }
        c.same("which are not refused", x.status(1), 0);
        for (int works = 1; works <= 16; works++) {
            x.work(0);
        }
        x.image();
        x.image();
        x.image();
        for (int fed = 1; fed <= 30; fed++) {
            x.feed(0, 0, 0, 0, 0);
        }
        c.same("three images", x.count(0), 3);
        c.same("a full tape", x.count(1), 600);
        c.same("16 works", x.count(2), 16);
    }
}
