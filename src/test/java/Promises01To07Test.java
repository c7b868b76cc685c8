/** Edges of the promises 1 to 7: a new object, the tape, the four texts, the place of a fault. */
public final class Promises01To07Test {
    private static final String LAND = "bay 3 2;bay 1 1;cry 10 20;cry 5 9;term 2;";

    public static void main(String[] args) throws Exception {
        Edges.run(Promises01To07Test.class);
    }

    /** An object of which all is other than at first. */
    private static CryGorge used() {
        CryGorge x = Check.made(LAND);
        Check.law(x, "fade+1");
        Check.heard(x, "0 20;1 18;");
        Check.work(x, "keep 0 0;felt 0;year;loose 1;");
        x.image();
        return x;
    }

    @Says("A GORGE without CLAUSES.")
    static void promise01NewObjectIsAsAGorgeWithoutClauses(Check c) {
        CryGorge fresh = new CryGorge();
        String seen = Look.all(fresh);
        c.same("bays", fresh.told(0), 0);
        c.same("cries", fresh.told(1), 0);
        c.same("the term", fresh.told(3), 21);
        c.same("felt", fresh.told(4), 3);
        CryGorge x = used();
        c.same("gorge(0)", x.gorge(0), 0);
        c.alike("all of another object", Look.all(x), seen);
        c.alike("all of a new one behind that", Look.all(new CryGorge()), seen);
    }

    @Says("A GORGE without CLAUSES.")
    static void promise01NewObjectAnswersAllThatIsAsked(Check c) {
        CryGorge x = new CryGorge();
        int[] due = {x.fault(), -1, x.undo(), -1, x.restore(), -1, x.ahead(99, 0), 0, x.ahead(99, 1), 0, x.plan(0), 0,
            x.whose(0), 0, x.whose(1), -1, x.listen(0), 0, x.listen(1), 0, x.pairs(0, 0), 0, x.pairs(0, 1), -1,
            x.chord(0, 0), 1, x.chord(0, 1), 0, x.chord(0, 2), 0, x.ears(), 0, x.loudest(0), -1, x.loudest(1), -1,
            x.grown(), 0, x.room(), 0, x.status(0), 0, x.status(1), 0, x.count(0), 0, x.count(1), 0, x.count(2), 0};
        for (int i = 0; i < due.length; i += 2) {
            c.same("answer " + i / 2, due[i], due[i + 1]);
        }
    }

    @Says("An object is used for at most 512 calls after it has been made")
    static void promise01NewObjectIsGoodFor512Calls(Check c) {
        CryGorge x = new CryGorge();
        for (int call = 1; call <= 511; call++) {
            c.illegal("told(11)", () -> x.told(11));
        }
        c.same("the 512th call", x.status(1), 511);
    }

    @Says("Twenty bytes come on the TAPE, of each number the highest first: how many there are")
    static void promise02FeedHighestByteFirst(Check c) {
        CryGorge x = new CryGorge();
        c.same("feed", x.feed(0x62617920, 0x3320323b, 0x63727920, 0x31302032, 0x303b2020), 20);
        c.same("bay 3 2;cry 10 20;", x.gorge(20), 1);
        c.same("F", x.bay(0, 0), 3);
        c.same("W", x.bay(0, 1), 2);
        c.same("P", x.cry(0, 0), 10);
        c.same("S", x.cry(0, 1), 20);
        // Twenty bytes each: the second twenty stand behind the first.
        c.same("feed", x.feed(0x20202020, 0x20202020, 0x20202020, 0x20202020, 0x20746572), 20);
        c.same("feed", x.feed(0x6d20373b, 0x80ffffff, -1, Integer.MIN_VALUE, 0), 40);
        c.same("term 7; over two of them", x.gorge(24), 0);
        c.same("the term", x.told(3), 7);
    }

    @Says("Twenty bytes come on the TAPE, of each number the highest first: how many there are")
    static void promise02FeedBytesAbove127(Check c) {
        for (int number : new int[] {0x80202020, 0xff202020, 0xb0202020}) {
            CryGorge x = new CryGorge();
            c.same("feed", x.feed(0x20202020, number, 0x20202020, 0x20202020, 0x20202020), 20);
            c.same("gorge", x.gorge(20), -9);
            c.same("fault()", x.fault(), 4);
        }
        CryGorge x = new CryGorge();
        c.same("feed", x.feed(0x202020ff, -1, -1, -1, -1), 20);
        c.same("the first three are blanks", x.gorge(3), 0);
    }

    @Says("NONE, doing nothing, if there would be more than 600.")
    static void promise02FeedFullTape(Check c) {
        CryGorge x = new CryGorge();
        Check.feed(x, "term 7;" + " ".repeat(573));
        c.same("count(1)", x.count(1), 580);
        c.same("the 30th", x.feed(0x66656c74, 0x20353b20, 0x20202020, 0x20202020, 0x20202020), 600);
        for (int i = 0; i < 3; i++) {
            c.same("the 31st", x.feed(-1, -1, -1, -1, -1), -1);
            c.same("count(1)", x.count(1), 600);
        }
        c.same("all as it was", x.gorge(600), 0);
        c.same("the first of them", x.told(3), 7);
        c.same("the last of them", x.told(4), 5);
        c.same("count(1)", x.count(1), 0);
        c.same("feed", x.feed(0, 0, 0, 0, 0), 20);
    }

    @Says("The first n bytes of the TAPE (empty then) are the GORGE")
    static void promise03GorgeFirstNBytesAndTheTapeIsEmpty(Check c) {
        CryGorge x = new CryGorge();
        c.same("0 of an empty tape", x.gorge(0), 0);
        Check.feed(x, "cry 1 1;cry 2 2;cry 3 3;");
        c.same("the tape", x.count(1), 40);
        c.same("the first 16", x.gorge(16), 2);
        c.same("the rest is gone, too", x.count(1), 0);
        Check.feed(x, "cry 1 1;cry 2 2;cry 3 3;");
        c.same("0 of 40", x.gorge(0), 0);
        c.same("the tape", x.count(1), 0);
        c.same("no cries", x.told(1), 0);
        Check.feed(x, "cry 1 1;cry 2 2;cry ");
        c.same("all 20", x.gorge(20), -9);
        c.same("behind a fault, too", x.count(1), 0);
    }

    @Says("(YEAR 0; no LAW, nothing HEARD, no IMAGES, nothing to undo): how many CRIES")
    static void promise03GorgeBeginsAnew(Check c) {
        CryGorge x = used();
        x.image();
        x.image();
        c.same("gorge", Check.gorge(x, LAND), 2);
        c.alike("all", Look.all(x), Look.all(Check.made(LAND)));
        c.same("the year", x.told(2), 0);
        c.same("no law", x.would(7, 0, 1, 0, 0, 0, 0, 0), 5);
        c.same("nothing heard", x.told(8), 0);
        c.same("no images", x.count(0), 0);
        c.same("no image to restore", x.restore(), -1);
        c.same("nothing to undo", x.undo(), -1);
        for (int images = 1; images <= 3; images++) {
            c.same("room for three", x.image(), images);
        }
        for (int works = 1; works <= 16; works++) {
            c.same("room for sixteen", x.work(0), 0);
        }
        c.same("a 17th", x.work(0), -20);
    }

    @Says("are the GORGE (YEAR 0; no LAW, nothing HEARD, no IMAGES, nothing to undo)")
    static void promise03GorgeNothingOfTheOneAheadIsLeft(Check c) {
        String full = "bay 9 4;".repeat(6) + "cry 9 99;".repeat(8);
        for (int bay = 0; bay < 6; bay++) {
            for (int other = bay + 1; other < 6; other++) {
                full += "path " + bay + " " + other + " 1;";
            }
        }
        CryGorge x = Check.made(full + "term 1;felt 9;");
        c.works(x, "keep 7 5;felt 5;felt 0;year;out 6;", 5, 0);
        String bare = "bay 0 1;".repeat(6) + "cry 0 1;".repeat(8);
        c.same("gorge", Check.gorge(x, bare), 8);
        c.alike("all", Look.all(x), Look.all(Check.made(bare)));
        for (int bay = 0; bay < 6; bay++) {
            c.same("no paths", x.bay(bay, 4), 0);
            c.same("no ways", x.way(bay, (bay + 1) % 6, 0), -1);
            c.same("no rounds", x.round(bay, 63), -1);
        }
        c.same("a keeper at each", x.ears(), 63);
        c.same("gorge", Check.gorge(x, "bay 0 1;"), 0);
        c.noSuch("bay(1, 0)", () -> x.bay(1, 0));
        c.noSuch("cry(0, 0)", () -> x.cry(0, 0));
    }

    @Says("how many CRIES; or the FAULT less 10 (all stays).")
    static void promise03GorgeHowManyCries(Check c) {
        for (int cries = 0; cries <= 8; cries++) {
            CryGorge x = used();
            c.same("gorge", Check.gorge(x, "cry 1 1;".repeat(cries)), cries);
            c.same("told(1)", x.told(1), cries);
        }
        CryGorge x = used();
        String before = Look.all(x).replaceAll(" fault=-?\\d+", "");
        int[] due = {-9, -8, -7};
        String[] texts = {"cry 1 1", "cry 1 100;", "cry 1 1;".repeat(9)};
        for (int i = 0; i < 3; i++) {
            c.same(texts[i], Check.gorge(x, texts[i]), due[i]);
            c.alike("all stays", Look.all(x).replaceAll(" fault=-?\\d+", ""), before);
        }
        c.same("restore()", x.restore(), 0);
        c.same("undo()", x.undo(), 0);
    }

    @Says("IllegalArgumentException: n is not 0 to the TAPE's bytes (it stays).")
    static void promise03GorgeWrongN(Check c) {
        for (int n : new int[] {Integer.MIN_VALUE, -1, 21, 600, Integer.MAX_VALUE}) {
            CryGorge x = used();
            Check.feed(x, "cry 1 1;cry 2 2;");
            c.refused(x, "gorge(" + n + ")", Check.ILLEGAL, () -> x.gorge(n));
            c.same("the tape is as it was", x.gorge(16), 2);
        }
        CryGorge empty = new CryGorge();
        c.illegal("1 of an empty tape", () -> empty.gorge(1));
        c.same("0 of it", empty.gorge(0), 0);
    }

    @Says("Likewise the LAW (n to 150): 1.")
    static void promise04LawNTo150(Check c) {
        CryGorge x = used();
        Check.feed(x, "7" + " ".repeat(159));
        for (int n : new int[] {Integer.MIN_VALUE, -1, 151, 160, 161, Integer.MAX_VALUE}) {
            c.illegal("law(" + n + ")", () -> x.law(n));
        }
        c.same("the tape stays", x.count(1), 160);
        c.same("so does the law", x.would(7, 0, 0, 0, 0, 0, 0, 0), 8);
        c.same("law(150)", x.law(150), 1);
        c.same("the tape is empty", x.count(1), 0);
        c.same("the law", x.would(6, 0, 0, 0, 0, 0, 0, 0), 7);
        CryGorge y = used();
        Check.feed(y, "7" + " ".repeat(19));
        c.refused(y, "law(21), of 20", Check.ILLEGAL, () -> y.law(21));
        c.same("law(20)", y.law(20), 1);
    }

    @Says("Likewise the LAW (n to 150): 1.")
    static void promise04LawWithAFaultStays(Check c) {
        CryGorge x = used();
        c.same("law(0)", x.law(0), -9);
        c.same("1000", Check.law(x, "1000"), -8);
        c.same("seven open", Check.law(x, "((((((("), -7);
        c.same("a fault behind good words", Check.law(x, "9+9+x"), -9);
        c.same("the tape is empty", x.count(1), 0);
        c.same("the law stays", x.would(7, 0, 0, 0, 0, 0, 0, 0), 8);
        String kept = Look.keeping(x);
        c.same("a good one", Check.law(x, "fade*2"), 1);
        c.same("counts", x.would(7, 0, 0, 0, 0, 0, 0, 0), 14);
        c.alike("and changes nothing else", Look.keeping(x), kept);
        c.same("no work is lost", x.count(2), 1);
        c.same("no image is lost", x.count(0), 1);
        c.same("no line is lost", x.told(8), 2);
    }

    @Says("Likewise WORK (n to 150), which is done: how many STEPS were done (agains not counted, nor REFUSED ones)")
    static void promise05WorkNTo150(Check c) {
        CryGorge x = Check.made(LAND);
        Check.feed(x, "year;" + " ".repeat(155));
        for (int n : new int[] {Integer.MIN_VALUE, -1, 151, 160, 161, Integer.MAX_VALUE}) {
            c.illegal("work(" + n + ")", () -> x.work(n));
        }
        c.same("the tape stays", x.count(1), 160);
        c.same("nothing is done", x.told(2), 0);
        c.same("work(150)", x.work(150), 1);
        c.same("the tape is empty", x.count(1), 0);
        c.same("the year", x.told(2), 1);
        CryGorge y = used();
        Check.feed(y, "year;");
        c.refused(y, "work(21), of 20", Check.ILLEGAL, () -> y.work(21));
        c.same("work(5)", y.work(5), 1);
    }

    @Says("how many STEPS were done (agains not counted, nor REFUSED ones)")
    static void promise05WorkHowManyStepsWereDone(Check c) {
        CryGorge x = Check.made(LAND);
        c.works(x, "", 0, 0);
        c.works(x, "loose 0;", 0, 1);
        c.works(x, "again 3[];", 0, 0);
        c.works(x, "again 3[again 2[year;];loose 0;];", 6, 3);
        c.works(x, "again 0[year;];year;", 1, 0);
        c.same("all of them are works", x.count(2), 5);
    }

    @Says("or the FAULT less 10 (none is)")
    static void promise05WorkWithAFaultDoesNone(Check c) {
        CryGorge x = used();
        String kept = Look.keeping(x);
        c.same("1", Check.work(x, "year;fill 0 1;x"), -9);
        c.same("2", Check.work(x, "year;fill 0 31;"), -8);
        c.same("3", Check.work(x, "year;" + "again 1[".repeat(7)), -7);
        c.alike("none is done", Look.keeping(x), kept);
        c.same("told(9) is of the latest that was done", x.told(9), 1);
        c.same("it is no work", x.count(2), 1);
        c.same("the tape is empty", x.count(1), 0);
        c.same("undo()", x.undo(), 0);
        c.same("the year", x.told(2), 0);
    }

    @Says("-20 ahead of that (nothing is read, there is no FAULT, the TAPE is empty then): 16 WORKS are there that were not undone.")
    static void promise05Work16AreThere(Check c) {
        CryGorge x = Check.made(LAND);
        for (int works = 1; works <= 16; works++) {
            c.works(x, works == 16 ? "year;loose 0;" : works % 2 == 0 ? "" : "year;", works == 16 || works % 2 == 1 ? 1 : 0,
                    works == 16 ? 1 : 0);
            c.same("count(2)", x.count(2), works);
        }
        c.same("a text with a fault", Check.law(x, "1+"), -9);
        c.same("fault()", x.fault(), 2);
        String kept = Look.keeping(x);
        c.same("good steps", Check.work(x, "year;"), -20);
        c.same("no fault", x.fault(), -1);
        c.same("the tape is empty", x.count(1), 0);
        c.same("a fault is not read", Check.work(x, "x"), -20);
        c.same("no fault", x.fault(), -1);
        c.same("no steps", x.work(0), -20);
        c.alike("nothing is done", Look.keeping(x), kept);
        c.same("told(9)", x.told(9), 1);
        c.same("count(2)", x.count(2), 16);
        c.same("undo()", x.undo(), 15);
        c.works(x, "year;year;", 2, 0);
        c.same("full again", Check.work(x, "year;"), -20);
    }

    @Says("-20 ahead of that (nothing is read, there is no FAULT, the TAPE is empty then): 16 WORKS are there that were not undone.")
    static void promise05WorkWrongNGoesAheadOf16(Check c) {
        CryGorge x = Check.made(LAND);
        for (int works = 1; works <= 16; works++) {
            x.work(0);
        }
        Check.law(x, "1+");
        Check.feed(x, "year;");
        c.refused(x, "work(21), of 20", Check.ILLEGAL, () -> x.work(21));
        c.refused(x, "work(-1)", Check.ILLEGAL, () -> x.work(-1));
        c.same("the tape stays", x.count(1), 20);
        c.same("the fault stays", x.fault(), 2);
        c.same("work(5)", x.work(5), -20);
    }

    @Says("16 WORKS are there that were not undone.")
    static void promise05WorkRestoredOnesAreThere(Check c) {
        CryGorge x = Check.made(LAND);
        c.same("image()", x.image(), 1);
        for (int works = 1; works <= 16; works++) {
            x.work(0);
        }
        c.same("image()", x.image(), 2);
        c.same("undo()", x.undo(), 15);
        c.same("restore()", x.restore(), 1);
        c.same("16 are there", x.work(0), -20);
        c.same("restore()", x.restore(), 0);
        c.same("none is there", x.count(2), 0);
        c.same("work", Check.work(x, "year;"), 1);
        c.same("undo()", x.undo(), 0);
    }

    @Says("Likewise what is HEARD (n to 60): how many lines.")
    static void promise06HeardNTo60(Check c) {
        CryGorge x = used();
        Check.feed(x, "7 1;" + " ".repeat(76));
        for (int n : new int[] {Integer.MIN_VALUE, -1, 61, 80, 81, Integer.MAX_VALUE}) {
            c.illegal("heard(" + n + ")", () -> x.heard(n));
        }
        c.same("the tape stays", x.count(1), 80);
        c.same("so does what was heard", x.told(8), 2);
        c.same("heard(60)", x.heard(60), 1);
        c.same("the tape is empty", x.count(1), 0);
        c.same("told(8)", x.told(8), 1);
        CryGorge y = used();
        Check.feed(y, "7 1;");
        c.refused(y, "heard(21), of 20", Check.ILLEGAL, () -> y.heard(21));
        c.same("heard(4)", y.heard(4), 1);
    }

    @Says("Likewise what is HEARD (n to 60): how many lines.")
    static void promise06HeardHowManyLines(Check c) {
        CryGorge x = used();
        String[] texts = {"", "5 1;", "5 1;4 1;", "5 1;4 1;3 1;2 1;1 1;", "5 1;4 1;3 1;2 1;1 1;0 1;"};
        int[] due = {0, 1, 2, 5, 6};
        for (int i = 0; i < texts.length; i++) {
            c.same(texts[i], Check.heard(x, texts[i]), due[i]);
            c.same("told(8)", x.told(8), due[i]);
        }
        c.same("1", Check.heard(x, "1"), -9);
        c.same("2", Check.heard(x, "1 1;1 1;"), -8);
        c.same("3", Check.heard(x, texts[4] + "6 1;"), -7);
        c.same("what was heard stays", x.told(8), 6);
        c.same("the tape is empty", x.count(1), 0);
        c.same("no work is lost", x.count(2), 1);
    }

    @Says("The place of the FAULT of the latest text; NONE without.")
    static void promise07FaultOfTheLatestText(Check c) {
        CryGorge x = new CryGorge();
        c.same("no text yet", x.fault(), -1);
        c.same("law(0)", x.law(0), -9);
        c.same("at 0", x.fault(), 0);
        c.same("gorge", Check.gorge(x, " ".repeat(599) + "x"), -9);
        c.same("at 599", x.fault(), 599);
        c.same("gorge", Check.gorge(x, " ".repeat(599) + "t"), -9);
        c.same("work", Check.work(x, "year"), -9);
        c.same("at the length", x.fault(), 4);
        c.same("heard", Check.heard(x, "1 1;"), 1);
        c.same("none", x.fault(), -1);
        c.same("heard", Check.heard(x, "1 1;1"), -8);
        c.same("at 4", x.fault(), 4);
        c.same("law", Check.law(x, "1"), 1);
        c.same("none", x.fault(), -1);
    }

    @Says("The place of the FAULT of the latest text; NONE without.")
    static void promise07FaultStaysWithoutAText(Check c) {
        CryGorge x = Check.made("bay 1 1;cry 1 1;");
        c.same("law", Check.law(x, "12+"), -9);
        c.illegal("a text that is not read", () -> x.law(151));
        c.illegal("nor this one", () -> x.gorge(1));
        x.feed(0, 0, 0, 0, 0);
        x.undo();
        x.image();
        x.restore();
        c.same("fault()", x.fault(), 3);
        c.same("work(0)", x.work(0), 0);
        c.same("none", x.fault(), -1);
        c.same("law", Check.law(x, "12+"), -9);
        c.same("undo()", x.undo(), 0);
        c.same("fault()", x.fault(), 3);
        c.same("gorge(0)", x.gorge(0), 0);
        c.same("none", x.fault(), -1);
    }
}
