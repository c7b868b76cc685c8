/** Terms, ==== 1: the edges of the text HEARD. */
public final class TermHeardTest {
    public static void main(String[] args) throws Exception {
        Edges.run(TermHeardTest.class);
    }

    private static CryGorge heard(Check c, String text, int due, int place) {
        CryGorge x = new CryGorge();
        c.text(x, "heard", text, due, place);
        c.same("told(8)", x.told(8), Math.max(due, 0));
        return x;
    }

    @Says("HEARD is a text of up to 60 bytes")
    static void termHeardUpTo60Bytes(Check c) {
        heard(c, "0000 0009;0001 0009;0002 0009;0003 0009;0004 0009;0005 0009;", 6, -1);
        heard(c, "1 1" + " ".repeat(56) + ";", 1, -1);
        heard(c, "1 1" + " ".repeat(57), -9, 60);
        CryGorge x = new CryGorge();
        Check.feed(x, "1 1;" + " ".repeat(76));
        c.illegal("heard(61)", () -> x.heard(61));
        c.same("heard(60)", x.heard(60), 1);
    }

    @Says("{ A S \";\" }, 6 lines at most, no A twice")
    static void termHeardWithoutLines(Check c) {
        heard(c, "", 0, -1);
        heard(c, " ".repeat(60), 0, -1);
        CryGorge x = Check.made("bay 1 1;cry 1 5;");
        c.same("one line", Check.heard(x, "0 4;"), 1);
        c.same("nobody's", x.whose(0), 0);
        c.same("no line", Check.heard(x, ""), 0);
        c.same("anybody's", x.whose(0), 1);
    }

    @Says("{ A S \";\" }, 6 lines at most, no A twice")
    static void termHeardSemicolonBehindEachLine(Check c) {
        heard(c, ";", -9, 0);
        heard(c, "1;", -9, 1);
        heard(c, "1 1", -9, 3);
        heard(c, "1 1;;", -9, 4);
        heard(c, "1 1 1;", -9, 4);
        heard(c, "1 1,", -9, 3);
        heard(c, "1,1;", -9, 1);
        heard(c, "age 1;", -9, 0);
        heard(c, "1 1;2", -9, 5);
    }

    @Says("{ A S \";\" }, 6 lines at most, no A twice")
    static void termHeard6LinesAtMost(Check c) {
        heard(c, "5 1;4 1;3 1;2 1;1 1;0 1;", 6, -1);
        heard(c, "5 1;4 1;3 1;2 1;1 1;0 1;6 1;", -7, 24);
        heard(c, "5 1;4 1;3 1;2 1;1 1;0 1;  6", -7, 26);
        heard(c, "5 1;4 1;3 1;2 1;1 1;0 1;  ", 6, -1);
    }

    @Says("{ A S \";\" }, 6 lines at most, no A twice")
    static void termHeardNoAgeTwice(Check c) {
        heard(c, "3 1;3 1;", -8, 4);
        heard(c, "3 1;003 2;", -8, 4);
        heard(c, "3 1;4 1;5 1;6 1;7 1;3 2;", -8, 20);
        heard(c, "0 1;0 1;", -8, 4);
        heard(c, "40 1;40 1;", -8, 5);
        heard(c, "3 0;3 0;", -8, 4);
        heard(c, "3 4;4 3;", 2, -1);
    }

    @Says("at AGE A (0 to 40) it was S strong (0 to 99)")
    static void termHeardAge0To40(Check c) {
        heard(c, "0 1;", 1, -1);
        heard(c, "40 1;", 1, -1);
        heard(c, "41 1;", -8, 0);
        heard(c, " 41 1;", -8, 1);
        heard(c, "-1 1;", -9, 0);
    }

    @Says("at AGE A (0 to 40) it was S strong (0 to 99)")
    static void termHeardStrength0To99(Check c) {
        heard(c, "1 0;", 1, -1);
        heard(c, "1 99;", 1, -1);
        heard(c, "1 100;", -8, 2);
        heard(c, "1 -1;", -9, 2);
    }
}
