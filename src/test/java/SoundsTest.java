/** Promises 20 to 22, 27 and 28: intervals, chords, shares, the loudest. */
public final class SoundsTest {
    private static final Check CHECK = new Check();
    private static final String GORGE = "bay 0 4;cry 10 20;cry 22 40;cry 5 9;cry 17 30;term 1;";

    public static void main(String[] args) {
        intervals();
        pairs();
        chords();
        chordEdges();
        shares();
        loudest();
        CHECK.end();
    }

    private static void intervals() {
        CryGorge x = Check.made(GORGE);
        CHECK.same("12 apart", x.interval(0, 1), 0);
        CHECK.same("5 apart", x.interval(0, 2), 5);
        CHECK.same("5 apart, the other way", x.interval(2, 0), 5);
        CHECK.same("17 apart", x.interval(1, 2), 5);
        CHECK.same("itself", x.interval(3, 3), 0);
        CHECK.noSuch("interval(0, 4)", () -> x.interval(0, 4));
        CHECK.noSuch("interval(4, 0)", () -> x.interval(4, 0));
        CHECK.noSuch("interval(-1, 0)", () -> x.interval(-1, 0));
        CHECK.same("59 apart", Check.made("cry 60 1;cry 1 1;").interval(0, 1), 11);
    }

    private static void pairs() {
        CryGorge x = Check.made(GORGE);
        CHECK.same("pairs(0, 0)", x.pairs(0, 0), 2);
        CHECK.same("pairs(0, 1)", x.pairs(0, 1), 1);
        CHECK.same("pairs(5, 0)", x.pairs(5, 0), 3);
        CHECK.same("pairs(5, 1)", x.pairs(5, 1), 2);
        CHECK.same("pairs(7, 1)", x.pairs(7, 1), 3);
        CHECK.same("pairs(11, 0)", x.pairs(11, 0), 0);
        CHECK.same("pairs(11, 1)", x.pairs(11, 1), -1);
        CHECK.same("the lesser first", Check.made("cry 9 1;cry 0 1;cry 3 1;").pairs(3, 1), 12);
        CHECK.illegal("pairs(12, 0)", () -> x.pairs(12, 0));
        CHECK.illegal("pairs(-1, 0)", () -> x.pairs(-1, 0));
        CHECK.illegal("pairs(0, 2)", () -> x.pairs(0, 2));
        CHECK.illegal("pairs(0, -1)", () -> x.pairs(0, -1));
    }

    private static void chord(CryGorge x, int sum, int many, int first, int sure) {
        CHECK.same("chord(" + sum + ", 0)", x.chord(sum, 0), many);
        CHECK.same("chord(" + sum + ", 1)", x.chord(sum, 1), first);
        CHECK.same("chord(" + sum + ", 2)", x.chord(sum, 2), sure);
    }

    private static void chords() {
        CryGorge x = Check.made(GORGE);
        chord(x, 0, 1, 0, 0);
        chord(x, 29, 1, 5, 5);
        chord(x, 99, 1, 15, 15);
        chord(x, 98, 0, -1, 0);
        chord(x, 792, 0, -1, 0);
        CryGorge many = Check.made("cry 0 1;cry 0 2;cry 0 3;cry 0 4;");
        // 1 and 4, 2 and 3
        chord(many, 5, 2, 6, 0);
        // 1, 3 and 4 alone
        chord(many, 8, 1, 13, 13);
        // 3 and 4, 1 2 and 4
        chord(many, 7, 2, 11, 8);
        CHECK.illegal("chord(-1, 0)", () -> x.chord(-1, 0));
        CHECK.illegal("chord(793, 0)", () -> x.chord(793, 0));
        CHECK.illegal("chord(0, 3)", () -> x.chord(0, 3));
        CHECK.illegal("chord(0, -1)", () -> x.chord(0, -1));
    }

    private static void chordEdges() {
        CryGorge x = Check.made("cry 0 1;cry 0 8;bay 0 1;cry 0 4;term 1;");
        Check.work(x, "keep 2 0;year;");
        // Strengths are 0, 4, 4 now: the gone one may be in or not.
        chord(x, 0, 2, 0, 0);
        chord(x, 4, 4, 2, 0);
        chord(x, 8, 2, 6, 6);
        Check.work(x, "out 1;");
        chord(x, 4, 2, 4, 4);
        chord(x, 8, 0, -1, 0);
        CryGorge loud = Check.made("cry 0 99;".repeat(8));
        chord(loud, 792, 1, 255, 255);
        chord(loud, 99, 8, 1, 0);
    }

    private static void shares() {
        CryGorge x = Check.made(GORGE);
        CHECK.same("more than enough", x.share(1, 15, 999), 40);
        CHECK.same("just enough", x.share(1, 15, 99), 40);
        CHECK.same("one too few", x.share(1, 15, 98), 39);
        CHECK.same("41 among three", x.share(1, 15, 50), 13);
        CHECK.same("no more than its own", x.share(2, 15, 50), 9);
        CHECK.same("none", x.share(2, 15, 0), 0);
        CHECK.same("fewer than they are", x.share(2, 15, 3), 0);
        CHECK.same("as many as they are", x.share(2, 15, 4), 1);
        CHECK.same("not told", x.share(0, 14, 50), 0);
        CHECK.same("told alone", x.share(0, 1, 7), 7);
        Check.work(x, "keep 0 0;year;out 0;");
        CHECK.same("by strength now: 20 20 4 15, out ones, too", x.share(0, 15, 50), 15);
        CHECK.noSuch("share(4, 99, 9999)", () -> x.share(4, 99, 9999));
        CHECK.noSuch("share(-1, 0, 0)", () -> x.share(-1, 0, 0));
        CHECK.illegal("share(0, 16, 0)", () -> x.share(0, 16, 0));
        CHECK.illegal("share(0, -1, 0)", () -> x.share(0, -1, 0));
        CHECK.illegal("share(0, 0, 1000)", () -> x.share(0, 0, 1000));
        CHECK.illegal("share(0, 0, -1)", () -> x.share(0, 0, -1));
    }

    private static void loudest() {
        CryGorge x = Check.made("bay 0 2;cry 0 3;cry 0 9;cry 0 9;cry 0 1;term 2;");
        CHECK.same("of alike ones the first", x.loudest(0), 1);
        CHECK.same("its strength", x.loudest(1), 9);
        Check.work(x, "keep 0 0;year;year;");
        CHECK.same("strength now", x.loudest(0), 0);
        CHECK.same("its strength", x.loudest(1), 3);
        Check.work(x, "out 0;");
        CHECK.same("not out", x.loudest(0), 1);
        CHECK.same("its strength", x.loudest(1), 2);
        Check.work(x, "out 1;out 2;");
        CHECK.same("a gone one", x.loudest(0), 3);
        CHECK.same("its strength", x.loudest(1), 0);
        Check.work(x, "out 3;");
        CHECK.same("none", x.loudest(0), -1);
        CHECK.same("none", x.loudest(1), -1);
        CHECK.illegal("loudest(2)", () -> x.loudest(2));
        CHECK.illegal("loudest(-1)", () -> x.loudest(-1));
    }
}
