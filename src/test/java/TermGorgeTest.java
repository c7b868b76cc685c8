/** Terms, ==== 1: the edges of the text GORGE. */
public final class TermGorgeTest {
    public static void main(String[] args) throws Exception {
        Edges.run(TermGorgeTest.class);
    }

    /** Tells a gorge to a new object, and looks at its answer and the place of its fault. */
    private static CryGorge told(Check c, String text, int due, int place) {
        CryGorge x = new CryGorge();
        c.text(x, "gorge", text, due, place);
        return x;
    }

    @Says("A GORGE is a text of up to 600 bytes")
    static void termGorgeUpTo600Bytes(Check c) {
        CryGorge x = told(c, "cry 7 9" + " ".repeat(592) + ";", 1, -1);
        c.same("the pitch", x.cry(0, 0), 7);
        CryGorge early = told(c, "cry 7 9" + " ".repeat(593), -9, 600);
        c.same("no cry", early.told(1), 0);
        CryGorge full = new CryGorge();
        Check.feed(full, " ".repeat(600));
        c.illegal("gorge(601)", () -> full.gorge(601));
        c.same("gorge(600)", full.gorge(600), 0);
    }

    @Says("{ CLAUSE \";\" }, at most 60.")
    static void termGorgeWithoutClauses(Check c) {
        for (String text : new String[] {"", " ", " ".repeat(20), " ".repeat(21)}) {
            CryGorge x = told(c, text, 0, -1);
            c.same("bays", x.told(0), 0);
            c.same("cries", x.told(1), 0);
        }
    }

    @Says("{ CLAUSE \";\" }, at most 60.")
    static void termGorgeSemicolonBehindEachClause(Check c) {
        told(c, ";", -9, 0);
        told(c, "term 1", -9, 6);
        told(c, "term 1;;", -9, 7);
        told(c, "term 1,", -9, 6);
        told(c, "term 1 felt 1;", -9, 7);
        told(c, "term 1;felt 1", -9, 13);
        told(c, "term 1;felt 1;", 0, -1);
    }

    @Says("{ CLAUSE \";\" }, at most 60.")
    static void termGorgeAtMost60Clauses(Check c) {
        told(c, "term1;".repeat(59), 0, -1);
        told(c, "term1;".repeat(60), 0, -1);
        told(c, "term1;".repeat(60) + " ".repeat(240), 0, -1);
        told(c, "term1;".repeat(61), -7, 360);
        CryGorge x = told(c, "cry1 1;".repeat(8) + "bay1 1;".repeat(6) + "felt7;".repeat(45) + "term7;", 8, -1);
        c.same("the 60th counts", x.told(3), 7);
        for (String clause : new String[] {"bay 1 1;", "cry 1 1;", "path 0 1 1;", "term 1;", "felt 1;"}) {
            told(c, "bay1 1;bay1 1;" + "felt1;".repeat(57) + clause, clause.startsWith("cry") ? 1 : 0, -1);
            told(c, "bay1 1;bay1 1;" + "felt1;".repeat(58) + clause, -7, 362);
        }
    }

    @Says("BAYS, numbered from 0 on, 6 at most")
    static void termGorgeBaysNumberedFrom0On6AtMost(Check c) {
        CryGorge x = told(c, "bay 10 1;bay 11 2;bay 12 3;bay 13 4;bay 14 1;bay 15 2;", 0, -1);
        c.same("bays", x.told(0), 6);
        for (int bay = 0; bay < 6; bay++) {
            c.same("F of bay " + bay, x.bay(bay, 0), 10 + bay);
            c.same("W of bay " + bay, x.bay(bay, 1), bay % 4 + 1);
        }
        c.noSuch("bay(6, 0)", () -> x.bay(6, 0));
        c.noSuch("bay(-1, 0)", () -> x.bay(-1, 0));
        told(c, "bay 1 1;".repeat(7), -7, 48);
        told(c, "bay 1 1;".repeat(6) + "cry 1 1;  bay", -7, 58);
    }

    @Says("FADE F, 0 to 20, holds W cries, 1 to 4")
    static void termGorgeFade0To20(Check c) {
        c.same("F", told(c, "bay 0 1;", 0, -1).bay(0, 0), 0);
        c.same("F", told(c, "bay 20 1;", 0, -1).bay(0, 0), 20);
        told(c, "bay 21 1;", -8, 4);
        told(c, "bay -1 1;", -9, 4);
    }

    @Says("FADE F, 0 to 20, holds W cries, 1 to 4")
    static void termGorgeHolds1To4(Check c) {
        told(c, "bay 1 0;", -8, 6);
        c.same("W", told(c, "bay 1 1;", 0, -1).bay(0, 1), 1);
        c.same("W", told(c, "bay 1 4;", 0, -1).bay(0, 1), 4);
        told(c, "bay 1 5;", -8, 6);
        told(c, "bay 1;", -9, 5);
        told(c, "bay;", -9, 3);
    }

    @Says("CRIES likewise, 8: PITCH P, 0 to 60, STRENGTH S, 1 to 99")
    static void termGorgeCriesNumberedFrom0On8AtMost(Check c) {
        StringBuilder text = new StringBuilder();
        for (int cry = 0; cry < 8; cry++) {
            text.append("cry ").append(10 + cry).append(' ').append(20 + cry).append(';');
        }
        CryGorge x = told(c, text.toString(), 8, -1);
        c.same("cries", x.told(1), 8);
        for (int cry = 0; cry < 8; cry++) {
            c.same("P of cry " + cry, x.cry(cry, 0), 10 + cry);
            c.same("S of cry " + cry, x.cry(cry, 5), 20 + cry);
        }
        c.noSuch("cry(8, 0)", () -> x.cry(8, 0));
        c.noSuch("cry(-1, 0)", () -> x.cry(-1, 0));
        told(c, "cry 1 1;".repeat(9), -7, 64);
        told(c, "cry 1 1;".repeat(8) + "bay 1 1;  cry", -7, 74);
    }

    @Says("CRIES likewise, 8: PITCH P, 0 to 60, STRENGTH S, 1 to 99")
    static void termGorgePitch0To60(Check c) {
        c.same("P", told(c, "cry 0 1;", 1, -1).cry(0, 0), 0);
        c.same("P", told(c, "cry 60 1;", 1, -1).cry(0, 0), 60);
        told(c, "cry 61 1;", -8, 4);
        told(c, "cry -1 1;", -9, 4);
    }

    @Says("CRIES likewise, 8: PITCH P, 0 to 60, STRENGTH S, 1 to 99")
    static void termGorgeStrength1To99(Check c) {
        told(c, "cry 1 0;", -8, 6);
        c.same("S", told(c, "cry 1 1;", 1, -1).cry(0, 5), 1);
        c.same("S", told(c, "cry 1 99;", 1, -1).cry(0, 5), 99);
        told(c, "cry 1 100;", -8, 6);
        told(c, "cry 1;", -9, 5);
        told(c, "cry;", -9, 3);
    }

    @Says("a way between BAYS A and B, told ahead, unlike, of LENGTH L, 1 to 40, both ways")
    static void termGorgePathOfBaysToldAhead(Check c) {
        told(c, "path 0 1 1;", -8, 5);
        told(c, "path 0 1 1;bay 1 1;bay 1 1;", -8, 5);
        told(c, "bay 1 1;path 0 1 1;bay 1 1;", -8, 15);
        told(c, "bay 1 1;path 1 0 1;bay 1 1;", -8, 13);
        CryGorge x = told(c, "bay 1 1;bay 1 1;path 0 1 1;bay 1 1;", 0, -1);
        c.same("the way", x.way(0, 1, 0), 1);
        CryGorge most = told(c, "bay 1 1;".repeat(6) + "path 5 0 1;path 4 5 2;", 0, -1);
        c.same("the way", most.way(4, 0, 0), 3);
        told(c, "bay 1 1;".repeat(6) + "path 6 0 1;", -8, 53);
        told(c, "bay 1 1;".repeat(6) + "path 0 6 1;", -8, 55);
    }

    @Says("a way between BAYS A and B, told ahead, unlike, of LENGTH L, 1 to 40, both ways")
    static void termGorgePathOfUnlikeBays(Check c) {
        told(c, "bay 1 1;bay 1 1;path 0 0 1;", -8, 23);
        told(c, "bay 1 1;bay 1 1;path 1 1 1;", -8, 23);
        told(c, "bay 1 1;bay 1 1;path 1 01 1;", -8, 23);
        told(c, "bay 1 1;bay 1 1;path 0 1 1;path 1 0 1;", 0, -1);
    }

    @Says("a way between BAYS A and B, told ahead, unlike, of LENGTH L, 1 to 40, both ways")
    static void termGorgePathOfLength1To40(Check c) {
        String bays = "bay 1 1;bay 1 1;";
        told(c, bays + "path 0 1 0;", -8, 25);
        c.same("L", told(c, bays + "path 0 1 1;", 0, -1).way(0, 1, 0), 1);
        c.same("L", told(c, bays + "path 0 1 40;", 0, -1).way(0, 1, 0), 40);
        told(c, bays + "path 0 1 41;", -8, 25);
        told(c, bays + "path 0 1;", -9, 24);
        told(c, bays + "path 0;", -9, 22);
        told(c, bays + "path;", -9, 20);
    }

    @Says("of LENGTH L, 1 to 40, both ways; of two BAYS the last counts")
    static void termGorgePathBothWays(Check c) {
        CryGorge x = told(c, "bay 1 1;bay 1 1;path 1 0 9;", 0, -1);
        c.same("one way", x.way(1, 0, 0), 9);
        c.same("the other way", x.way(0, 1, 0), 9);
        c.same("paths of bay 0", x.bay(0, 4), 2);
        c.same("paths of bay 1", x.bay(1, 4), 1);
    }

    @Says("of two BAYS the last counts")
    static void termGorgePathLastOfTwoBaysCounts(Check c) {
        String bays = "bay 1 1;bay 1 1;bay 1 1;";
        c.same("a longer one", told(c, bays + "path 0 1 3;path 0 1 8;", 0, -1).way(0, 1, 0), 8);
        c.same("a shorter one", told(c, bays + "path 0 1 8;path 0 1 3;", 0, -1).way(0, 1, 0), 3);
        CryGorge x = told(c, bays + "path 0 1 3;path 0 2 5;path 1 0 8;", 0, -1);
        c.same("told the other way round", x.way(0, 1, 0), 8);
        c.same("and back", x.way(1, 0, 0), 8);
        c.same("of other bays", x.way(0, 2, 0), 5);
    }

    @Says("\"term\" N (1 to 40 YEARS; 21 without; the last counts)")
    static void termGorgeTerm1To40(Check c) {
        told(c, "term 0;", -8, 5);
        c.same("the term", told(c, "term 1;", 0, -1).told(3), 1);
        c.same("the term", told(c, "term 40;", 0, -1).told(3), 40);
        told(c, "term 41;", -8, 5);
        told(c, "term;", -9, 4);
    }

    @Says("\"term\" N (1 to 40 YEARS; 21 without; the last counts)")
    static void termGorgeTerm21WithoutAndTheLastCounts(Check c) {
        c.same("without", told(c, "bay 1 1;", 0, -1).told(3), 21);
        c.same("the last", told(c, "term 5;bay 1 1;term 6;", 0, -1).told(3), 6);
        c.same("the last", told(c, "term 6;term 5;", 0, -1).told(3), 5);
        CryGorge x = told(c, "term 5;", 0, -1);
        c.same("a gorge behind it", Check.gorge(x, "felt 1;"), 0);
        c.same("without again", x.told(3), 21);
        c.same("one with a fault", Check.gorge(x, "term 9;term 0;"), -8);
        c.same("which does not count", x.told(3), 21);
    }

    @Says("\"felt\" N (felt for N doors, 0 to 9; 3 without; the last counts)")
    static void termGorgeFelt0To9(Check c) {
        c.same("felt", told(c, "felt 0;", 0, -1).told(4), 0);
        c.same("felt", told(c, "felt 9;", 0, -1).told(4), 9);
        told(c, "felt 10;", -8, 5);
        told(c, "felt;", -9, 4);
    }

    @Says("\"felt\" N (felt for N doors, 0 to 9; 3 without; the last counts)")
    static void termGorgeFelt3WithoutAndTheLastCounts(Check c) {
        c.same("without", told(c, "bay 1 1;", 0, -1).told(4), 3);
        c.same("the last", told(c, "felt 1;bay 1 1;felt 0;", 0, -1).told(4), 0);
        c.same("the last", told(c, "felt 0;felt 9;", 0, -1).told(4), 9);
        CryGorge x = told(c, "felt 5;", 0, -1);
        c.same("a gorge behind it", Check.gorge(x, "term 1;"), 0);
        c.same("without again", x.told(4), 3);
        c.same("one with a fault", Check.gorge(x, "felt 9;felt 10;"), -8);
        c.same("which does not count", x.told(4), 3);
    }

    @Says("CLAUSE: \"bay\" F W")
    static void termGorgeNoOtherClause(Check c) {
        for (String word : new String[] {"bays", "ba", "Bay", "BAY", "crys", "paths", "terms", "felts", "keep", "year", "law"}) {
            told(c, word + " 1 1;", -9, 0);
        }
        told(c, "1 1;", -9, 0);
        told(c, "bay 1 1 1;", -9, 8);
        told(c, "term 1 1;", -9, 7);
        told(c, "bay bay 1;", -9, 4);
        told(c, "bay 1 bay;", -9, 6);
    }
}
