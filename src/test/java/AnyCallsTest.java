import java.util.Random;

/** Calls with any arguments in any state: each answers or throws what the face names, and refusals are counted. */
public final class AnyCallsTest {
    private static final Check CHECK = new Check();
    private static final int[] ODD = {Integer.MIN_VALUE, -1000, -2, -1, 0, 1, 2, 3, 5, 8, 16, 31, 96, 255, 600, 1000, Integer.MAX_VALUE};
    private static final String[] WORDS = {"bay", "cry", "path", "term", "felt", "keep", "bare", "loose", "fill", "out", "year", "again",
        "[", "]", ";", ";", ";", ",", "(", ")", "+", "-", "*", "/", "%", "least", "most", "fade", "mates", "strength", "pitch", "age",
        "0", "1", "2", "3", "7", "40", "99", "999", " ", "  ", "x", "\0", "\u00ff"};
    private static final String[] GORGES = {"", "bay 1 1;", "cry 1 9;", "bay 3 2;bay 1 1;cry 10 20;cry 5 9;path 0 1 4;term 2;",
        "bay 9 4;bay 0 4;bay 1 4;bay 2 4;bay 3 4;bay 4 4;cry 0 99;cry 9 50;cry 60 1;cry 3 2;cry 4 3;cry 5 4;cry 6 5;cry 7 6;felt 9;"};

    private final Random random;
    private final CryGorge x = new CryGorge();
    private int noSuch;
    private int illegal;

    private AnyCallsTest(int seed) {
        random = new Random(seed);
    }

    public static void main(String[] args) {
        for (int seed = 0; seed < 600; seed++) {
            new AnyCallsTest(seed).run();
        }
        CHECK.end();
    }

    private void run() {
        Check.gorge(x, GORGES[random.nextInt(GORGES.length)]);
        Check.work(x, "keep 0 0;keep 1 1;felt 0;year;");
        for (int call = 0; call < 200; call++) {
            int got = Check.outcome(this::anyCall);
            CHECK.same("a call throws what no call may", got == Check.OTHER ? 1 : 0, 0);
            noSuch += got == Check.NO_SUCH ? 1 : 0;
            illegal += got == Check.ILLEGAL ? 1 : 0;
        }
        CHECK.same("status(0)", x.status(0), noSuch);
        CHECK.same("status(1)", x.status(1), illegal);
    }

    private int n() {
        return random.nextInt(4) == 0 ? ODD[random.nextInt(ODD.length)] : random.nextInt(9);
    }

    private int told() {
        StringBuilder text = new StringBuilder();
        for (int words = random.nextInt(30); words > 0; words--) {
            text.append(WORDS[random.nextInt(WORDS.length)]).append(random.nextInt(3) == 0 ? " " : "");
        }
        Check.feed(x, text.substring(0, Math.min(text.length(), 100)));
        int n = random.nextInt(5) == 0 ? n() : Math.min(text.length(), 100);
        switch (random.nextInt(5)) {
            case 0:
                return x.law(n);
            case 1:
                return x.heard(n);
            case 2:
                return random.nextInt(9) == 0 ? x.gorge(n) : x.work(n);
            default:
                return x.work(n);
        }
    }

    private int anyCall() {
        switch (random.nextInt(32)) {
            case 0:
            case 1:
            case 2:
                return told();
            case 3:
                return x.told(n());
            case 4:
                return x.bay(n(), n());
            case 5:
                return x.cry(n(), n());
            case 6:
                return x.would(n(), n(), n(), n(), n(), n(), n(), n());
            case 7:
                return x.would(n() & 7, n() & 3, n() & 1, n() & 63, n() & 31, n() & 255, n() & 3, n() & 255);
            case 8:
                return x.ahead(n(), n());
            case 9:
                return x.lasts(n());
            case 10:
                return x.ripe(n());
            case 11:
                return x.plan(n());
            case 12:
                return x.planned(n(), n());
            case 13:
                return x.whose(n());
            case 14:
                return x.listen(n());
            case 15:
                return x.interval(n(), n());
            case 16:
                return x.pairs(n(), n());
            default:
                return anyOtherCall();
        }
    }

    private int anyOtherCall() {
        switch (random.nextInt(17)) {
            case 0:
                return x.chord(n(), n());
            case 1:
                return x.way(n(), n(), n());
            case 2:
                return x.round(n(), n());
            case 3:
                return x.ears();
            case 4:
                return x.prices(n(), n(), n());
            case 5:
                return x.share(n(), n(), n());
            case 6:
                return x.loudest(n());
            case 7:
                return x.kindest(n(), n());
            case 8:
                return x.grown();
            case 9:
                return x.room();
            case 10:
                return x.century(n(), n(), n(), n(), n());
            case 11:
                return x.span(n(), n(), n(), n(), n(), n(), n());
            case 12:
                return x.image();
            case 13:
                return x.restore();
            case 14:
                return x.undo();
            case 15:
                return x.count(n()) + x.status(n()) - x.fault();
            default:
                return x.feed(n(), n(), n(), n(), n());
        }
    }
}
