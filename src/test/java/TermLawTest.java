/** Terms, ==== 1: the edges of the text LAW, and of the numbers that it reckons with. */
public final class TermLawTest {
    public static void main(String[] args) throws Exception {
        Edges.run(TermLawTest.class);
    }

    private static void law(Check c, String text, int due, int place) {
        c.text(new CryGorge(), "law", text, due, place);
    }

    /** FADES by a law, for fade 20, mates 3, felt 1, strength 98, pitch 60, age 400, bay 5, year 300. */
    private static void fades(Check c, String text, int due) {
        CryGorge x = new CryGorge();
        c.text(x, "law", text, 1, -1);
        c.same("FADES by " + text, x.would(20, 3, 1, 98, 60, 400, 5, 300), due);
    }

    @Says("A LAW is a text of up to 150 bytes")
    static void termLawUpTo150Bytes(Check c) {
        fades(c, "0" + "+1".repeat(74) + " ", 74);
        fades(c, "7" + " ".repeat(149), 7);
        fades(c, "0".repeat(149) + "7", 7);
        fades(c, "1" + "*1".repeat(73) + "+41", 42);
        CryGorge x = new CryGorge();
        Check.feed(x, "7" + " ".repeat(159));
        c.illegal("law(151)", () -> x.law(151));
        c.same("law(150)", x.law(150), 1);
    }

    @Says("E, at the end nothing more")
    static void termLawEmptyText(Check c) {
        law(c, "", -9, 0);
        law(c, " ", -9, 1);
        law(c, " ".repeat(150), -9, 150);
    }

    @Says("E, at the end nothing more")
    static void termLawNothingMoreAtTheEnd(Check c) {
        law(c, "1;", -9, 1);
        law(c, "1 2", -9, 2);
        law(c, "fade mates", -9, 5);
        law(c, "1 fade", -9, 2);
        law(c, "fade(1)", -9, 4);
        law(c, "1)", -9, 1);
        law(c, "(1))", -9, 3);
        law(c, "1]", -9, 1);
        law(c, "1,2", -9, 1);
        law(c, "least[1,2]]", -9, 10);
        law(c, "1\0", -9, 1);
        law(c, "1  ", 1, -1);
    }

    @Says("without: fade + mates - felt * 2")
    static void termLawWithout(Check c) {
        CryGorge x = new CryGorge();
        c.same("fade", x.would(20, 0, 0, 99, 60, 400, 5, 300), 20);
        c.same("mates", x.would(0, 3, 0, 99, 60, 400, 5, 300), 3);
        c.same("felt", x.would(20, 3, 1, 0, 0, 0, 0, 0), 21);
        c.same("0 at least", x.would(1, 0, 1, 0, 0, 0, 0, 0), 0);
        c.same("0", x.would(2, 0, 1, 0, 0, 0, 0, 0), 0);
        c.same("1", x.would(2, 1, 1, 0, 0, 0, 0, 0), 1);
        c.same("another law", Check.law(x, "5"), 1);
        c.same("5", x.would(20, 3, 1, 0, 0, 0, 0, 0), 5);
        c.same("a new gorge", x.gorge(0), 0);
        c.same("without again", x.would(20, 3, 1, 0, 0, 0, 0, 0), 21);
    }

    @Says("FADES, what a cry loses in a YEAR: what comes out, 0 at least, 99 at most.")
    static void termLawFades0AtLeast99AtMost(Check c) {
        fades(c, "1", 1);
        fades(c, "0", 0);
        fades(c, "0-1", 0);
        fades(c, "0-999*999", 0);
        fades(c, "98", 98);
        fades(c, "99", 99);
        fades(c, "100", 99);
        fades(c, "999*999", 99);
        fades(c, "32*64*512*512*4", 0);
        fades(c, "32*64*512*512*4-1", 99);
    }

    @Says("E: T { + or - T }.")
    static void termLawSums(Check c) {
        fades(c, "9-3-2", 4);
        fades(c, "9-3+2", 8);
        fades(c, "9-(3+2)", 4);
        law(c, "+1", -9, 0);
        law(c, "-1", -9, 0);
        law(c, "1+", -9, 2);
        law(c, "1-", -9, 2);
        law(c, "1--1", -9, 2);
        law(c, "1+ ", -9, 3);
    }

    @Says("T: U { * or / or % U }.")
    static void termLawProducts(Check c) {
        fades(c, "50/5*2", 20);
        fades(c, "50/(5*2)", 5);
        fades(c, "50%7*9", 9);
        fades(c, "50/7%4", 3);
        fades(c, "1+2*3", 7);
        fades(c, "20-9/3*2", 14);
        fades(c, "20-9%5", 16);
        law(c, "*1", -9, 0);
        law(c, "1*", -9, 2);
        law(c, "1/", -9, 2);
        law(c, "1%", -9, 2);
        law(c, "1*/1", -9, 2);
        law(c, "1*-1", -9, 2);
    }

    @Says("U: N (0 to 999)")
    static void termLawNumber0To999(Check c) {
        fades(c, "0", 0);
        fades(c, "999/9", 99);
        fades(c, "999-990", 9);
        law(c, "999", 1, -1);
        law(c, "1000", -8, 0);
        law(c, "1+1000", -8, 2);
        fades(c, "0000000999-998", 1);
    }

    @Says("\"fade\" (of its BAY), \"mates\" (other cries there), \"felt\" (1: its door is felted, else 0)")
    static void termLawNames(Check c) {
        fades(c, "fade", 20);
        fades(c, "mates", 3);
        fades(c, "felt", 1);
        fades(c, "strength", 98);
        fades(c, "pitch", 60);
        fades(c, "age-350", 50);
        fades(c, "bay", 5);
        fades(c, "year-250", 50);
        for (String name : new String[] {"fades", "mate", "felts", "strengths", "pitc", "ages", "bays", "years", "Fade", "x"}) {
            law(c, name, -9, 0);
        }
        law(c, "fade1", -9, 4);
        law(c, "1fade", -9, 1);
    }

    @Says("\"mates\" (other cries there)")
    static void termLawMatesOthersThere(Check c) {
        CryGorge x = Check.made("bay 0 4;bay 0 4;cry 0 50;cry 0 50;cry 0 50;cry 0 50;cry 0 50;");
        Check.law(x, "mates*10");
        Check.work(x, "keep 0 0;keep 4 1;");
        c.same("alone", x.cry(0, 4), 0);
        Check.work(x, "keep 1 0;");
        c.same("one other", x.cry(0, 4), 10);
        Check.work(x, "keep 2 0;keep 3 0;");
        c.same("three others", x.cry(0, 4), 30);
        c.same("alone elsewhere", x.cry(4, 4), 0);
    }

    @Says("\"felt\" (1: its door is felted, else 0), \"strength\" (now), \"pitch\", \"age\" (YEARS it is old), \"bay\" (its number), \"year\"")
    static void termLawGivenAsItIsNow(Check c) {
        CryGorge x = Check.made("bay 4 1;bay 9 1;cry 33 90;cry 44 90;");
        Check.work(x, "keep 0 0;keep 1 1;felt 1;fill 1 5;year;");
        String[] laws = {"fade", "felt*7", "strength-80", "pitch", "age*6", "bay*5+1", "year*8"};
        // Cry 0 was 90 less 4, cry 1 was 95 less 9 and more by its felted door.
        int[] first = {4, 0, 6, 33, 6, 1, 8};
        int[] second = {9, 7, 8, 44, 6, 6, 8};
        for (int i = 0; i < laws.length; i++) {
            c.same(laws[i], Check.law(x, laws[i]), 1);
            c.same("cry 0 by " + laws[i], x.cry(0, 4), first[i]);
            c.same("cry 1 by " + laws[i], x.cry(1, 4), second[i]);
        }
    }

    @Says("\"least\" \"[\" E \",\" E \"]\", \"most\" \"[\" E \",\" E \"]\", or \"(\" E \")\"")
    static void termLawLeastMostAndBrackets(Check c) {
        fades(c, "least[3,4]", 3);
        fades(c, "least[4,3]", 3);
        fades(c, "least[4,4]", 4);
        fades(c, "most[3,4]", 4);
        fades(c, "most[4,3]", 4);
        fades(c, "most[4,4]", 4);
        fades(c, "9+least[0-3,2]", 6);
        fades(c, "9+most[0-3,0-5]", 6);
        fades(c, "least[1+1,9]*most[2,3*2]", 12);
        law(c, "least", -9, 5);
        law(c, "least(1,2)", -9, 5);
        law(c, "least[", -9, 6);
        law(c, "least[]", -9, 6);
        law(c, "least[1", -9, 7);
        law(c, "least[1]", -9, 7);
        law(c, "least[1;2]", -9, 7);
        law(c, "least[1,", -9, 8);
        law(c, "least[1,]", -9, 8);
        law(c, "least[1,2", -9, 9);
        law(c, "least[1,2)", -9, 9);
        law(c, "most[1,2,3]", -9, 8);
        law(c, "(", -9, 1);
        law(c, "()", -9, 1);
        law(c, "(1", -9, 2);
        law(c, "(1]", -9, 2);
        law(c, "[1]", -9, 0);
    }

    // 64*512*256*256 is 2 to the 31st, which wraps to the least number of all.
    private static final String LEAST = "(64*512*256*256)";
    private static final String GREATEST = "(64*512*256*256-1)";

    @Says("Values are whole numbers of 32 bits that wrap")
    static void termLawWraps(Check c) {
        fades(c, LEAST, 0);
        fades(c, GREATEST, 99);
        // 2,147,483,647 / 999 / 999 / 100 is 21.
        fades(c, GREATEST + "/999/999/100", 21);
        fades(c, "0-(" + LEAST + "/999/999/100)", 21);
        fades(c, GREATEST + "+1-" + LEAST + "+5", 5);
        fades(c, LEAST + "-1-" + GREATEST + "+5", 5);
        fades(c, "0-" + LEAST + "-" + LEAST + "+5", 5);
        fades(c, LEAST + "*2+5", 5);
        fades(c, GREATEST + "*2+9", 7);
        fades(c, GREATEST + "+" + GREATEST + "+9", 7);
        // 999 to the 4th is 996,005,996,001, which wraps to -426,416,671... by 32 bits.
        fades(c, "0-999*999*999*999/999/999/9", 47);
        fades(c, "256*256*256*256+5", 5);
    }

    @Says("/ cuts, % leaves (with the sign of what is divided)")
    static void termLawCutsAndLeaves(Check c) {
        fades(c, "7/2", 3);
        fades(c, "50+(0-7)/2", 47);
        fades(c, "50+7/(0-2)", 47);
        fades(c, "50+(0-7)/(0-2)", 53);
        fades(c, "50+(0-1)/2", 50);
        fades(c, "7%4", 3);
        fades(c, "50+(0-7)%4", 47);
        fades(c, "50+7%(0-4)", 53);
        fades(c, "50+(0-7)%(0-4)", 47);
        fades(c, "50+(0-8)%4", 50);
        fades(c, "3%4", 3);
        fades(c, LEAST + "/(0-1)-" + LEAST + "+5", 5);
        fades(c, LEAST + "%(0-1)+5", 5);
    }

    @Says("by 0 both are 0")
    static void termLawBy0(Check c) {
        fades(c, "7/0", 0);
        fades(c, "7%0", 0);
        fades(c, "9+7/0", 9);
        fades(c, "9+7%0", 9);
        fades(c, "0/0+9", 9);
        fades(c, "0%0+9", 9);
        fades(c, "9+7/(felt-1)", 9);
        fades(c, "9+7%(3-mates)", 9);
        fades(c, "9+" + LEAST + "/0", 9);
        fades(c, "7/0*5+1", 1);
    }

    @Says("or a 7th of ( least most again that is open at one time")
    static void termLaw6AreOpenAtOneTime(Check c) {
        fades(c, "((((((7))))))", 7);
        law(c, "(((((((7)))))))", -7, 6);
        fades(c, "least[least[least[least[least[least[7,8],8],8],8],8],8]", 7);
        law(c, "least[least[least[least[least[least[least[7,8],8],8],8],8],8],8]", -7, 36);
        fades(c, "most[most[most[most[most[most[7,8],8],8],8],8],8]", 8);
        law(c, "most[1,most[1,most[1,most[1,most[1,most[1,most[1,1", -7, 42);
        fades(c, "(least[1,(most[2,(least[3,4])])])", 1);
        law(c, "(least[1,(most[2,(least[3,(4)])])])", -7, 26);
        law(c, "(least[1,(most[2,(least[3,most[4,5]])])])", -7, 26);
        law(c, "((((((least[1,2]))))))", -7, 6);
        fades(c, "(((((least[1,2])))))", 1);
        fades(c, "((((((1))))))+((((((2))))))+least[(((((3))))),(((((4)))))]", 6);
        law(c, "((((((1))))))+(((((((2)))))))", -7, 20);
        fades(c, "least[1,2]+".repeat(7) + "((((((1))))))", 8);
        fades(c, "most[1,2]+".repeat(7) + "least[1,(((((1)))))]", 15);
    }

    @Says("or a 7th of ( least most again that is open at one time")
    static void termLawNoneIsOpenBehindATextWithAFault(Check c) {
        CryGorge x = new CryGorge();
        for (String text : new String[] {"((((((x", "least[most[least[most[least[most[", "(((((((1)))))))"}) {
            c.same(text, Check.law(x, text) < 0 ? 1 : 0, 1);
            c.text(x, "law", "((((((7))))))", 1, -1);
            c.text(x, "law", "(((((((7)))))))", -7, 6);
        }
        c.same("again", Check.work(x, "again 1[".repeat(7)), -7);
        c.text(x, "law", "((((((7))))))", 1, -1);
        c.text(x, "work", "again 1[".repeat(6) + "year;" + "];".repeat(6), 1, -1);
    }
}
