/** Terms, ==== 1: how numbers, words and blanks are read, and which FAULT is told where. */
public final class TermFaultsTest {
    private static final String LAND = "bay 1 1;bay 1 1;cry 1 9;cry 1 9;";

    public static void main(String[] args) throws Exception {
        Edges.run(TermFaultsTest.class);
    }

    private static void text(Check c, String kind, String text, int due, int place) {
        c.text(Check.made(LAND), kind, text, due, place);
    }

    @Says("Numbers: digits, as many as stand there")
    static void termNumbersAsManyDigitsAsStandThere(Check c) {
        text(c, "gorge", "term 0000000000000000000000000000000000000005;", 0, -1);
        text(c, "law", "00000000000000000000999", 1, -1);
        text(c, "work", "keep 0001 00001;", 1, -1);
        text(c, "heard", "00000040 0000099;", 1, -1);
        text(c, "gorge", "term 55;", -8, 5);
        text(c, "gorge", "term 5 5;", -9, 7);
        text(c, "work", "keep 01;", -9, 7);
        text(c, "heard", "12;", -9, 2);
    }

    @Says("Numbers: digits, as many as stand there")
    static void termNumbersThatWouldWrapAround(Check c) {
        // By 32 or by 64 bits these would come back to 1, 2 to the 32nd and 1, and so on.
        for (String number : new String[] {"4294967297", "18446744073709551617", "2147483648", "9223372036854775808",
            "99999999999999999999999999999999999999999", "340282366920938463463374607431768211457"}) {
            text(c, "gorge", "term " + number + ";", -8, 5);
            text(c, "gorge", "bay 1 " + number + ";", -8, 6);
            text(c, "law", "1+" + number, -8, 2);
            text(c, "work", "keep " + number + " 0;", -8, 5);
            text(c, "work", "again " + number + "[];", -8, 6);
            text(c, "heard", number + " 1;", -8, 0);
            text(c, "heard", "1 " + number + ";", -8, 2);
        }
    }

    @Says("WORDS: small letters, as many as stand there")
    static void termWordsAsManyLettersAsStandThere(Check c) {
        text(c, "gorge", "bay1 1;cry1 1;path0 0 1;", -8, 20);
        text(c, "gorge", "bayy 1 1;", -9, 0);
        text(c, "gorge", "baya 1 1;", -9, 0);
        text(c, "gorge", "bayz 1 1;", -9, 0);
        text(c, "gorge", "day 1 1;", -9, 0);
        text(c, "gorge", "bad 1 1;", -9, 0);
        text(c, "law", "jade", -9, 0);
        text(c, "law", "fadez", -9, 0);
        text(c, "work", "near;", -9, 0);
        text(c, "work", "yeara;", -9, 0);
        text(c, "gorge", "termfelt 1;", -9, 0);
        text(c, "gorge", "te rm 1;", -9, 0);
        text(c, "gorge", "tErm 1;", -9, 0);
        text(c, "gorge", "term_1;", -9, 4);
        text(c, "law", "fademates", -9, 0);
        text(c, "law", "fadE", -9, 0);
        text(c, "work", "yearyear;", -9, 0);
        text(c, "work", "keep0 0;", 1, -1);
        text(c, "law", "fade+mates*felt", 1, -1);
        text(c, "law", "{", -9, 0);
        text(c, "law", "fade{", -9, 4);
        text(c, "law", "fade`", -9, 4);
    }

    @Says("blanks (32) may stand ahead of all these, and at the end")
    static void termBlanksAheadOfAllAndAtTheEnd(Check c) {
        text(c, "gorge", "  bay  1  1  ;  cry  2  3  ;  bay 1 1 ; path  0  1  4  ;  term  5  ;  felt  6  ;  ", 1, -1);
        text(c, "law", "  (  1  +  2  )  *  least  [  3  ,  4  ]  -  most [ 1 , 2 ]  /  3  %  4  ", 1, -1);
        text(c, "work", "  again  2  [  keep  0  1  ;  loose  0  ;  ]  ;  year  ;  ", 5, -1);
        text(c, "heard", "  1  2  ;  3  4  ;  ", 2, -1);
    }

    @Says("blanks (32) may stand ahead of all these, and at the end")
    static void termBlanksAre32Alone(Check c) {
        for (int sign : new int[] {0, 9, 10, 11, 12, 13, 31, 33, 127, 128, 133, 160, 255}) {
            String blank = String.valueOf((char) sign);
            text(c, "gorge", blank + "term 1;", -9, 0);
            text(c, "gorge", "term" + blank + "1;", -9, 4);
            text(c, "gorge", "term 1;" + blank, -9, 7);
            text(c, "law", "1" + blank, -9, 1);
            text(c, "work", "year" + blank + ";", -9, 4);
            text(c, "heard", "1" + blank + "1;", -9, 1);
        }
    }

    @Says("FAULTS, the first from the left, at its first byte")
    static void termFaultsTheFirstFromTheLeft(Check c) {
        text(c, "gorge", "term 99;bays 1 1;", -8, 5);
        text(c, "gorge", "bays 1 1;term 99;", -9, 0);
        text(c, "gorge", "bay 99 99;", -8, 4);
        text(c, "gorge", "bay 1 1;".repeat(7) + "x", -7, 48);
        text(c, "gorge", "bay 1 1;".repeat(6) + "x;bay 1 1;", -9, 48);
        text(c, "gorge", "bay 1 1;".repeat(6) + "cry 99 1;bay 1 1;", -8, 52);
        text(c, "law", "1000+(((((((1", -8, 0);
        text(c, "law", "(((((((1000", -7, 6);
        text(c, "law", "((((((1000)", -8, 6);
        text(c, "law", "x+1000", -9, 0);
        text(c, "work", "keep 9 9;", -8, 5);
        text(c, "work", "year;x;keep 9 9;", -9, 5);
        text(c, "work", "again 41[again 1[again 1[again 1[again 1[again 1[again 1[", -8, 6);
        text(c, "heard", "1 100;1 1;", -8, 2);
        text(c, "heard", "41 100", -8, 0);
    }

    @Says("1 what can't stand there (at the length, if the text ends too early)")
    static void termFaults1AtTheLengthIfTheTextEndsTooEarly(Check c) {
        String[] gorges = {"bay", "bay ", "bay 1", "bay 1 ", "bay 1 1", "bay 1 1   ", "path 0", "term", "felt 1"};
        for (String text : gorges) {
            text(c, "gorge", text.startsWith("path") ? LAND + text : text, -9,
                    text.startsWith("path") ? LAND.length() + text.length() : text.length());
        }
        for (String text : new String[] {"", "  ", "1+", "1* ", "(", "(1", "least", "most ", "least[", "least[1", "most[1,", "most[1,2 "}) {
            text(c, "law", text, -9, text.length());
        }
        for (String text : new String[] {"keep", "keep 0", "keep 0 0", "again", "again 1", "again 1[", "again 1[year",
            "again 1[year;", "again 1[year;]", "again 1[]  ", "fill 0", "year"}) {
            text(c, "work", text, -9, text.length());
        }
        for (String text : new String[] {"1", "1 ", "1 1", "1 1  "}) {
            text(c, "heard", text, -9, text.length());
        }
    }

    @Says("1 what can't stand there (at the length, if the text ends too early)")
    static void termFaultsTheTextEndsWhereItsBytesEnd(Check c) {
        CryGorge x = Check.made(LAND);
        Check.feed(x, "year;year;");
        c.same("work(9), of a tape that goes on", x.work(9), -9);
        c.same("fault()", x.fault(), 9);
        Check.feed(x, "term 12;");
        c.same("gorge(6)", x.gorge(6), -9);
        c.same("fault()", x.fault(), 6);
        Check.feed(x, "1000");
        c.same("law(3)", x.law(3), 1);
        Check.feed(x, "fade");
        c.same("law(3)", x.law(3), -9);
        c.same("fault()", x.fault(), 0);
    }

    @Says("2 a number that is none such (an A twice; B of path as A)")
    static void termFaults2ANumberThatIsNoneSuch(Check c) {
        text(c, "gorge", "bay   21 1;", -8, 6);
        text(c, "gorge", LAND + "path 1 1 1;", -8, 39);
        text(c, "gorge", LAND + "path 2 2 1;", -8, 37);
        text(c, "heard", "7 1;  7 1;", -8, 6);
        text(c, "law", "fade +  1000", -8, 8);
        text(c, "work", "again 2[keep 0   2;];", -8, 17);
    }

    @Says("3 a CLAUSE, BAY or CRY (at its word), a line (at its A) too many")
    static void termFaults3TooMany(Check c) {
        text(c, "gorge", "felt1;".repeat(60) + "   term 1;", -7, 363);
        text(c, "gorge", "bay 1 1;".repeat(6) + "   bay 1 1;", -7, 51);
        text(c, "gorge", "cry 1 1;".repeat(8) + "   cry 1 1;", -7, 67);
        text(c, "heard", "0 1;1 1;2 1;3 1;4 1;5 1;   6 1;", -7, 27);
    }

    @Says("of one the least.")
    static void termFaultsOfOneTheLeast(Check c) {
        String sixty = "felt1;".repeat(60);
        text(c, "gorge", sixty + "felts", -9, 360);
        text(c, "gorge", sixty + "7", -9, 360);
        text(c, "gorge", sixty + ";", -9, 360);
        text(c, "gorge", "bay 1 1;".repeat(6) + "felt1;".repeat(54) + "bay 1 1;", -7, 372);
        String six = "0 1;1 1;2 1;3 1;4 1;5 1;";
        text(c, "heard", six + "x", -9, 24);
        text(c, "heard", six + ";", -9, 24);
        text(c, "heard", six + "5 1;", -8, 24);
        text(c, "heard", six + "41 1;", -8, 24);
        text(c, "heard", six + "40 1;", -7, 24);
        text(c, "law", "((((((x", -9, 6);
        text(c, "law", "((((((1000", -8, 6);
    }

    @Says("or the FAULT less 10 (all stays)")
    static void termFaultsOfAnyTextChangeNothing(Check c) {
        String[][] texts = {{"gorge", "bay 1 1;x"}, {"gorge", "bay 99 1;"}, {"gorge", "bay 1 1;".repeat(7)}, {"law", "1+x"},
            {"law", "1000"}, {"law", "(((((((1)))))))"}, {"work", "year;x"}, {"work", "fill 0 1;keep 9 9;"},
            {"work", "year;" + "again 1[".repeat(7)}, {"heard", "1 1;x"}, {"heard", "1 1;1 1;"}, {"heard", "0 1;1 1;2 1;3 1;4 1;5 1;6 1;"}};
        for (String[] told : texts) {
            CryGorge x = Check.made(LAND);
            Check.law(x, "fade+strength/9");
            Check.heard(x, "0 9;1 7;");
            Check.work(x, "keep 0 0;felt 0;year;loose 1;");
            x.image();
            // The place of the fault alone is another one behind it.
            String before = Look.all(x).replaceAll(" fault=-?\\d+", "");
            int got = told[0].equals("gorge") ? Check.gorge(x, told[1]) : told[0].equals("law") ? Check.law(x, told[1])
                    : told[0].equals("work") ? Check.work(x, told[1]) : Check.heard(x, told[1]);
            c.same(told[0] + " \"" + told[1] + "\" has a fault", got >= -9 && got <= -7 ? 1 : 0, 1);
            c.alike("all behind it", Look.all(x).replaceAll(" fault=-?\\d+", ""), before);
            c.same("undo() behind it", x.undo(), 0);
            c.same("restore() behind it", x.restore(), 0);
        }
    }
}
