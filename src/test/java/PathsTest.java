/** Promises 23 to 26: ways, rounds, keepers who hear, prices. */
public final class PathsTest {
    private static final Check CHECK = new Check();

    public static void main(String[] args) {
        ways();
        rounds();
        ears();
        prices();
        CHECK.end();
    }

    private static CryGorge bays(int many, String paths) {
        return Check.made("bay 0 1;".repeat(many) + paths);
    }

    private static void way(CryGorge x, int bay, int other, int length, int next) {
        CHECK.same("way(" + bay + ", " + other + ", 0)", x.way(bay, other, 0), length);
        CHECK.same("way(" + bay + ", " + other + ", 1)", x.way(bay, other, 1), next);
    }

    private static void ways() {
        CryGorge x = bays(6, "path 0 1 4;path 1 2 6;path 0 2 15;path 2 3 1;path 0 3 11;path 3 4 40;");
        way(x, 0, 0, 0, -1);
        way(x, 0, 1, 4, 1);
        way(x, 0, 2, 10, 1);
        way(x, 2, 0, 10, 1);
        // 0 1 2 3 and 0 3 are both 11 long: 1 is the lesser next one.
        way(x, 0, 3, 11, 1);
        way(x, 3, 0, 11, 0);
        way(x, 4, 1, 47, 3);
        way(x, 0, 5, -1, -1);
        way(x, 5, 5, 0, -1);
        way(x, 2, 3, 1, 3);
        CHECK.noSuch("way(6, 0, 9)", () -> x.way(6, 0, 9));
        CHECK.noSuch("way(0, 6, 9)", () -> x.way(0, 6, 9));
        CHECK.noSuch("way(-1, 0, 0)", () -> x.way(-1, 0, 0));
        CHECK.illegal("way(0, 0, 2)", () -> x.way(0, 0, 2));
        CHECK.illegal("way(0, 0, -1)", () -> x.way(0, 0, -1));
    }

    private static void rounds() {
        CryGorge x = bays(5, "path 0 1 4;path 1 2 6;path 0 2 15;path 0 3 1;");
        CHECK.same("none told", x.round(0, 0), 0);
        CHECK.same("itself told", x.round(0, 1), 0);
        CHECK.same("one", x.round(0, 4), 10);
        CHECK.same("two on the way", x.round(0, 6), 10);
        CHECK.same("to bay 0", x.round(1, 1), 4);
        CHECK.same("there and back: 3 first", x.round(0, 14), 1 + 1 + 4 + 6);
        CHECK.same("from the middle: 4 1 1 4 6", x.round(1, 12), 4 + 1 + 1 + 4 + 6);
        CHECK.same("without a way", x.round(0, 16), -1);
        CHECK.same("one of them without a way", x.round(0, 18), -1);
        CHECK.noSuch("round(5, 99)", () -> x.round(5, 99));
        CHECK.noSuch("round(-1, 0)", () -> x.round(-1, 0));
        CHECK.illegal("round(0, 32)", () -> x.round(0, 32));
        CHECK.illegal("round(0, -1)", () -> x.round(0, -1));
        CryGorge star = bays(6, "path 0 1 1;path 0 2 2;path 0 3 3;path 0 4 4;path 0 5 5;");
        CHECK.same("all of a star", star.round(0, 63), 2 * (1 + 2 + 3 + 4) + 5);
    }

    private static void ears() {
        CHECK.same("no bays", bays(0, "").ears(), 0);
        CHECK.same("one bay", bays(1, "").ears(), 1);
        CHECK.same("no paths", bays(3, "").ears(), 7);
        CHECK.same("a pair and one", bays(3, "path 0 1 9;").ears(), 5);
        CHECK.same("a star", bays(6, "path 5 0 1;path 5 1 1;path 5 2 1;path 5 3 1;path 5 4 1;").ears(), 32);
        CHECK.same("a chain of six", bays(6, "path 0 1 1;path 1 2 1;path 2 3 1;path 3 4 1;path 4 5 1;").ears(), 18);
        CHECK.same("a ring of four, the least bits", bays(4, "path 0 1 1;path 1 2 1;path 2 3 1;path 3 0 1;").ears(), 3);
        CHECK.same("two are not heard along two paths", bays(4, "path 0 1 1;path 1 2 1;path 2 3 1;").ears(), 5);
    }

    private static void prices(int k, int v, int many, int first, int together) {
        CryGorge x = new CryGorge();
        CHECK.same("prices(" + k + ", " + v + ", 0)", x.prices(k, v, 0), many);
        CHECK.same("prices(" + k + ", " + v + ", 1)", x.prices(k, v, 1), first);
        CHECK.same("prices(" + k + ", " + v + ", 2)", x.prices(k, v, 2), together);
    }

    private static void prices() {
        prices(0, 0, 1, 0, 0);
        prices(0, 9, 1, 0, 18);
        prices(2, 1, 3, 0, 2);
        prices(2, 3, 3, 0, 6);
        prices(5, 9, 6, 0, 18);
        prices(9, 0, 7, 0, 0);
        CryGorge x = new CryGorge();
        CHECK.illegal("prices(10, 0, 0)", () -> x.prices(10, 0, 0));
        CHECK.illegal("prices(-1, 0, 0)", () -> x.prices(-1, 0, 0));
        CHECK.illegal("prices(0, 10, 0)", () -> x.prices(0, 10, 0));
        CHECK.illegal("prices(0, -1, 0)", () -> x.prices(0, -1, 0));
        CHECK.illegal("prices(0, 0, 3)", () -> x.prices(0, 0, 3));
        CHECK.illegal("prices(0, 0, -1)", () -> x.prices(0, 0, -1));
    }
}
