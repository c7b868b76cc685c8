/** Promises 2 to 7: the tape, the four texts, and their faults. */
public final class TextsTest {
    private static final Check CHECK = new Check();

    public static void main(String[] args) {
        tape();
        lengths();
        gorgeTexts();
        gorgeLimits();
        gorgeForgets();
        lawTexts();
        workTexts();
        workLimit();
        heardTexts();
        faultStays();
        CHECK.end();
    }

    private static void tape() {
        CryGorge x = new CryGorge();
        for (int fed = 20; fed <= 600; fed += 20) {
            CHECK.same("feed", x.feed(0, 0, 0, 0, 0), fed);
        }
        CHECK.same("feed beyond 600", x.feed(0, 0, 0, 0, 0), -1);
        CHECK.same("count(1)", x.count(1), 600);
        CHECK.illegal("gorge(601)", () -> x.gorge(601));
        CHECK.illegal("gorge(-1)", () -> x.gorge(-1));
        CHECK.same("the tape stays", x.count(1), 600);
        CHECK.same("gorge(600) of zeros", x.gorge(600), -9);
        CHECK.same("the tape is empty", x.count(1), 0);
        CHECK.same("highest byte first", Check.outcome(() -> {
            x.feed(0x74657266 & 0xffffff00 | 'r', 0x6d20373b, 0, 0, 0);
            return x.gorge(8);
        }), -9);
        x.feed(0x7465726d, 0x20373b20, -1, -1, -1);
        CHECK.same("term 7;", x.gorge(8), 0);
        CHECK.same("told(3)", x.told(3), 7);
    }

    private static void lengths() {
        CryGorge x = new CryGorge();
        for (int i = 0; i < 8; i++) {
            x.feed(0x20202020, 0x20202020, 0x20202020, 0x20202020, 0x20202020);
        }
        CHECK.illegal("law(151)", () -> x.law(151));
        CHECK.illegal("work(151)", () -> x.work(151));
        CHECK.illegal("heard(61)", () -> x.heard(61));
        CHECK.illegal("law(-1)", () -> x.law(-1));
        CHECK.illegal("work(-1)", () -> x.work(-1));
        CHECK.illegal("heard(-1)", () -> x.heard(-1));
        CHECK.illegal("gorge(161)", () -> x.gorge(161));
        CHECK.same("the tape stays", x.count(1), 160);
        CHECK.same("status(1)", x.status(1), 7);
        CHECK.same("work(150) of blanks", x.work(150), 0);
        CHECK.same("the tape is empty", x.count(1), 0);
        CHECK.illegal("work(1) of an empty tape", () -> x.work(1));
        CHECK.same("heard(0)", x.heard(0), 0);
        CHECK.same("gorge(0)", x.gorge(0), 0);
        CHECK.same("law(0)", x.law(0), -9);
        CHECK.same("fault()", x.fault(), 0);
        Check.feed(x, repeat(" ", 60));
        CHECK.same("heard(60)", x.heard(60), 0);
        Check.feed(x, repeat(" ", 149) + "1");
        CHECK.same("law(150)", x.law(150), 1);
    }

    private static void gorgeTexts() {
        CryGorge x = new CryGorge();
        CHECK.text(x, "gorge", "", 0, -1);
        CHECK.text(x, "gorge", "   ", 0, -1);
        CHECK.text(x, "gorge", "bay0 1;cry60 99;cry 0 0001;term40;felt9;  ", 2, -1);
        CHECK.text(x, "gorge", " bay 20 4 ;  cry 1 2 ;", 1, -1);
        CHECK.text(x, "gorge", "bay 21 1;", -8, 4);
        CHECK.text(x, "gorge", "bay 99999999999999999999 1;", -8, 4);
        CHECK.text(x, "gorge", "bay 4294967297 1;", -8, 4);
        CHECK.text(x, "gorge", "bay 1 0;", -8, 6);
        CHECK.text(x, "gorge", "bay 1  5;", -8, 7);
        CHECK.text(x, "gorge", "cry 61 1;", -8, 4);
        CHECK.text(x, "gorge", "cry 1 0;", -8, 6);
        CHECK.text(x, "gorge", "cry 1 100;", -8, 6);
        CHECK.text(x, "gorge", "term 0;", -8, 5);
        CHECK.text(x, "gorge", "term 41;", -8, 5);
        CHECK.text(x, "gorge", "felt 10;", -8, 5);
        CHECK.text(x, "gorge", "path 0 1 1;bay 1 1;bay 1 1;", -8, 5);
        CHECK.text(x, "gorge", "bay 1 1;path 0 1 1;bay 1 1;", -8, 15);
        CHECK.text(x, "gorge", "bay 1 1;path 0 0 1;", -8, 15);
        CHECK.text(x, "gorge", "bay 1 1;bay 1 1;path 0 1 0;", -8, 25);
        CHECK.text(x, "gorge", "bay 1 1;bay 1 1;path 1 0 41;", -8, 25);
        CHECK.text(x, "gorge", "bay 1 1;bay 1 1;path 1 0 40;", 0, -1);
        CHECK.text(x, "gorge", "felt 0;bay 1 1;bay 1 1;", 0, -1);
        CHECK.text(x, "gorge", "bays 1 1;", -9, 0);
        CHECK.text(x, "gorge", "bayz 1 1;", -9, 0);
        CHECK.text(x, "gorge", "day 1 1;", -9, 0);
        CHECK.text(x, "gorge", "  Bay 1 1;", -9, 2);
        CHECK.text(x, "gorge", "bay 1 1", -9, 7);
        CHECK.text(x, "gorge", "bay 1 1  ", -9, 9);
        CHECK.text(x, "gorge", "bay 1", -9, 5);
        CHECK.text(x, "gorge", "bay 1;", -9, 5);
        CHECK.text(x, "gorge", "bay -1 1;", -9, 4);
        CHECK.text(x, "gorge", "bay 1 1;;", -9, 8);
        CHECK.text(x, "gorge", "bay 1 1 1;", -9, 8);
        CHECK.text(x, "gorge", "term 1;\0", -9, 7);
        CHECK.text(x, "gorge", "term 1;\u00ff", -9, 7);
        CHECK.text(x, "gorge", "term\t1;", -9, 4);
        CHECK.same("the last good gorge stays", x.told(0), 2);
    }

    private static void gorgeLimits() {
        CryGorge x = new CryGorge();
        CHECK.text(x, "gorge", repeat("bay 1 1;", 6), 0, -1);
        CHECK.text(x, "gorge", repeat("bay 1 1;", 7), -7, 48);
        CHECK.text(x, "gorge", repeat("bay 1 1;", 6) + " bay 99", -7, 49);
        CHECK.text(x, "gorge", repeat("bay 1 1;", 6) + "bayx 9;", -9, 48);
        CHECK.text(x, "gorge", repeat("cry 1 1;", 8), 8, -1);
        CHECK.text(x, "gorge", repeat("cry 1 1;", 9), -7, 64);
        CHECK.text(x, "gorge", repeat("term1;", 60), 0, -1);
        CHECK.text(x, "gorge", repeat("term1;", 61), -7, 360);
        CHECK.text(x, "gorge", repeat("felt1;", 60) + "cry", -7, 360);
        CHECK.text(x, "gorge", repeat("felt1;", 60) + "felt1;", -7, 360);
        CHECK.text(x, "gorge", repeat("felt1;", 60) + "path", -7, 360);
        CHECK.text(x, "gorge", repeat("felt1;", 60) + "bay", -7, 360);
        CHECK.text(x, "gorge", repeat("felt1;", 60) + "crow", -9, 360);
        CHECK.text(x, "gorge", repeat("felt1;", 60) + "  ", 0, -1);
        CHECK.text(x, "gorge", "term 5;term 6;felt 1;felt 2;bay 0 1;bay 0 1;path 0 1 3;path 1 0 8;", 0, -1);
        CHECK.same("the last term counts", x.told(3), 6);
        CHECK.same("the last felt counts", x.told(4), 2);
        CHECK.same("the last path counts", x.way(0, 1, 0), 8);
        CHECK.text(x, "gorge", "bay 0 1;bay 0 1;", 0, -1);
        CHECK.same("the usual term", x.told(3), 21);
        CHECK.same("the usual felt", x.told(4), 3);
        CHECK.same("no paths", x.way(0, 1, 0), -1);
        CHECK.same("no paths", x.bay(0, 4), 0);
    }

    private static void gorgeForgets() {
        CryGorge x = Check.made("bay 3 2;cry 1 50;");
        Check.law(x, "7");
        Check.heard(x, "0 50;");
        CHECK.same("work", Check.work(x, "keep 0 0;felt 0;year;out 0;"), 3);
        x.image();
        CHECK.same("a fault", Check.gorge(x, "bay 1 1"), -9);
        CHECK.same("year stays", x.told(2), 1);
        CHECK.same("refused stays", x.told(9), 1);
        CHECK.same("law stays", x.would(0, 0, 0, 0, 0, 0, 0, 0), 7);
        CHECK.same("images stay", x.count(0), 1);
        CHECK.same("works stay", x.count(2), 1);
        CHECK.same("lines stay", x.told(8), 1);
        CHECK.same("anew", Check.gorge(x, "bay 3 2;cry 1 50;"), 1);
        CHECK.same("year", x.told(2), 0);
        CHECK.same("kept", x.told(5), 0);
        CHECK.same("felt", x.told(4), 3);
        CHECK.same("door", x.bay(0, 3), 0);
        CHECK.same("strength", x.told(10), 50);
        CHECK.same("age", x.cry(0, 2), 0);
        CHECK.same("refused", x.told(9), 0);
        CHECK.same("law", x.would(1, 0, 0, 0, 0, 0, 0, 0), 1);
        CHECK.same("images", x.count(0), 0);
        CHECK.same("restore()", x.restore(), -1);
        CHECK.same("works", x.count(2), 0);
        CHECK.same("undo()", x.undo(), -1);
        CHECK.same("lines", x.told(8), 0);
    }

    private static void lawTexts() {
        CryGorge x = new CryGorge();
        CHECK.text(x, "law", "999", 1, -1);
        CHECK.text(x, "law", " 000000000000000000001 ", 1, -1);
        CHECK.text(x, "law", "1000", -8, 0);
        CHECK.text(x, "law", "1+ 4294967296", -8, 3);
        CHECK.text(x, "law", "", -9, 0);
        CHECK.text(x, "law", "   ", -9, 3);
        CHECK.text(x, "law", "fades", -9, 0);
        CHECK.text(x, "law", "fade felt", -9, 5);
        CHECK.text(x, "law", "fade2", -9, 4);
        CHECK.text(x, "law", "2fade", -9, 1);
        CHECK.text(x, "law", "-1", -9, 0);
        CHECK.text(x, "law", "1+", -9, 2);
        CHECK.text(x, "law", "1+*2", -9, 2);
        CHECK.text(x, "law", "(1", -9, 2);
        CHECK.text(x, "law", "1)", -9, 1);
        CHECK.text(x, "law", "()", -9, 1);
        CHECK.text(x, "law", "least(1,2)", -9, 5);
        CHECK.text(x, "law", "least [1]", -9, 8);
        CHECK.text(x, "law", "most[1,2", -9, 8);
        CHECK.text(x, "law", "most[1,2,3]", -9, 8);
        CHECK.text(x, "law", "most[,2]", -9, 5);
        CHECK.text(x, "law", "((((((1))))))", 1, -1);
        CHECK.text(x, "law", "(((((((1)))))))", -7, 6);
        CHECK.text(x, "law", "((((((least", -7, 6);
        CHECK.text(x, "law", "((((((most[1,2]))))))", -7, 6);
        CHECK.text(x, "law", "((((((leas", -9, 6);
        CHECK.text(x, "law", "least[1,least[1,least[1,least[1,least[1,least[1,(", -7, 48);
        CHECK.text(x, "law", "((((((3))))))", 1, -1);
        CHECK.text(x, "law", repeat("most[1,2]+", 7) + "((((((1))))))", 1, -1);
        CHECK.text(x, "law", "(1)+(1)+(1)+(1)+(1)+(1)+(1)+((((((1))))))", 1, -1);
        CHECK.text(x, "law", "most[(1),least[((((1)))),2]]", 1, -1);
        CHECK.same("the last good law stays", x.would(0, 0, 0, 0, 0, 0, 0, 0), 1);
    }

    private static void workTexts() {
        CryGorge x = Check.made("bay 1 1;bay 1 1;cry 1 1;cry 1 1;cry 1 1;");
        CHECK.text(x, "work", "", 0, -1);
        CHECK.text(x, "work", "keep 3 0;", -8, 5);
        CHECK.text(x, "work", "keep 0 2;", -8, 7);
        CHECK.text(x, "work", "felt 2;", -8, 5);
        CHECK.text(x, "work", "bare 2;", -8, 5);
        CHECK.text(x, "work", "loose 3;", -8, 6);
        CHECK.text(x, "work", "fill 3 1;", -8, 5);
        CHECK.text(x, "work", "fill 2 0;", -8, 7);
        CHECK.text(x, "work", "fill 2 31;", -8, 7);
        CHECK.text(x, "work", "out 3;", -8, 4);
        CHECK.text(x, "work", "again 41 [];", -8, 6);
        CHECK.text(x, "work", "again 40 [];", 0, -1);
        CHECK.text(x, "work", "again 1 year;", -9, 8);
        CHECK.text(x, "work", "again 1 [year];", -9, 13);
        CHECK.text(x, "work", "again 1 [year;]", -9, 15);
        CHECK.text(x, "work", "again 1 [year;", -9, 14);
        CHECK.text(x, "work", "year;]", -9, 5);
        CHECK.text(x, "work", "year;];", -9, 5);
        CHECK.text(x, "work", "year", -9, 4);
        CHECK.text(x, "work", "years;", -9, 0);
        CHECK.text(x, "work", "year;keep 0;", -9, 11);
        CHECK.text(x, "work", "7;", -9, 0);
        CHECK.text(x, "work", repeat("again 1[", 6) + "year;" + repeat("];", 6), 1, -1);
        CHECK.text(x, "work", repeat("again 1[", 6) + " again", -7, 49);
        CHECK.text(x, "work", repeat("again 1[", 6) + "agai", -9, 48);
        CHECK.text(x, "work", repeat("again 0[", 6) + repeat("];", 6), 0, -1);
        CHECK.text(x, "work", "again 1[];again 1[];again 1[];again 1[];again 1[];again 1[];again 1[];", 0, -1);
        CHECK.same("only the good ones were done", x.count(2), 5);
        CHECK.same("one year", x.told(2), 1);
        CHECK.same("a fault behind a good step", Check.work(x, "year;yeah;"), -9);
        CHECK.same("none is done", x.told(2), 1);
    }

    private static void workLimit() {
        CryGorge x = Check.made("bay 1 1;cry 1 1;");
        for (int i = 1; i <= 16; i++) {
            CHECK.same("work " + i, Check.work(x, "year;loose 0;"), 1);
        }
        CHECK.same("a fault", Check.law(x, "x"), -9);
        Check.feed(x, "yeah;");
        CHECK.illegal("work(151) ahead of -20", () -> x.work(151));
        CHECK.same("the tape stays", x.count(1), 20);
        CHECK.same("fault() stays", x.fault(), 0);
        CHECK.same("the 17th work", x.work(5), -20);
        CHECK.same("no fault", x.fault(), -1);
        CHECK.same("the tape is empty", x.count(1), 0);
        CHECK.same("year", x.told(2), 16);
        CHECK.same("refused stays", x.told(9), 1);
        CHECK.same("undo()", x.undo(), 15);
        CHECK.same("one fits again", Check.work(x, "year;year;"), 2);
        CHECK.same("year", x.told(2), 17);
    }

    private static void heardTexts() {
        CryGorge x = new CryGorge();
        CHECK.text(x, "heard", "40 99;0 0;", 2, -1);
        CHECK.same("told(8)", x.told(8), 2);
        CHECK.text(x, "heard", "41 1;", -8, 0);
        CHECK.text(x, "heard", "1 100;", -8, 2);
        CHECK.text(x, "heard", "1 1;01 1;", -8, 4);
        CHECK.text(x, "heard", "1;", -9, 1);
        CHECK.text(x, "heard", "1 1", -9, 3);
        CHECK.text(x, "heard", "age 1;", -9, 0);
        CHECK.same("the last good one stays", x.told(8), 2);
        CHECK.text(x, "heard", "0 1;1 1;2 1;3 1;4 1;5 1;", 6, -1);
        CHECK.text(x, "heard", "0 1;1 1;2 1;3 1;4 1;5 1; 6 1;", -7, 25);
        CHECK.text(x, "heard", "0 1;1 1;2 1;3 1;4 1;5 1;6 100", -7, 24);
        CHECK.text(x, "heard", "0 1;1 1;2 1;3 1;4 1;5 1;5 1;", -8, 24);
        CHECK.text(x, "heard", "0 1;1 1;2 1;3 1;4 1;5 1;41 1;", -8, 24);
        CHECK.text(x, "heard", "0 1;1 1;2 1;3 1;4 1;5 1;x", -9, 24);
        CHECK.text(x, "heard", "", 0, -1);
        CHECK.same("told(8)", x.told(8), 0);
    }

    private static void faultStays() {
        CryGorge x = Check.made("term 1");
        CHECK.same("fault()", x.fault(), 6);
        CHECK.illegal("law(1)", () -> x.law(1));
        CHECK.same("fault() behind a refused call", x.fault(), 6);
        x.feed(0, 0, 0, 0, 0);
        x.undo();
        x.image();
        x.restore();
        CHECK.same("fault() behind no text", x.fault(), 6);
        CHECK.same("heard(0)", x.heard(0), 0);
        CHECK.same("fault()", x.fault(), -1);
    }

    private static String repeat(String text, int times) {
        return text.repeat(times);
    }
}
