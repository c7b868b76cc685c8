import java.util.function.IntUnaryOperator;

/** Counts answers that are not as due, and feeds texts to the tape. */
final class Check {
    static final int NO_SUCH = -1001;
    static final int ILLEGAL = -1002;
    static final int OTHER = -1003;

    interface Call {
        int answer();
    }

    private int wrong;
    private String test = "";

    /** What is looked at from here on is told under the name of a test. */
    void begin(String name) {
        test = name + ": ";
    }

    void same(String call, int got, int due) {
        if (got != due) {
            wrong++;
            System.out.println(test + call + " answered " + shown(got) + ", due is " + shown(due));
        }
    }

    void alike(String what, String got, String due) {
        if (!got.equals(due)) {
            wrong++;
            System.out.println(test + what + " is" + got + ", due is" + due);
        }
    }

    /** A number of a call that may be least to most, and nothing just outside or far outside of that. */
    void range(String call, int least, int most, IntUnaryOperator made) {
        for (int number : new int[] {Integer.MIN_VALUE, least - 1, most + 1, Integer.MAX_VALUE}) {
            illegal(call + " of " + number, () -> made.applyAsInt(number));
        }
        for (int number : new int[] {least, most}) {
            int got = outcome(() -> made.applyAsInt(number));
            same(call + " of " + number + " is refused", got == NO_SUCH || got == ILLEGAL || got == OTHER ? 1 : 0, 0);
        }
    }

    /** The same for the number of a bay or a cry, of which there are so many. */
    void elements(String call, int many, IntUnaryOperator made) {
        for (int number : new int[] {Integer.MIN_VALUE, -1, many, Integer.MAX_VALUE}) {
            noSuch(call + " of " + number, () -> made.applyAsInt(number));
        }
        for (int number = 0; number < many; number++) {
            int tried = number;
            int got = outcome(() -> made.applyAsInt(tried));
            same(call + " of " + number + " is refused", got == NO_SUCH || got == ILLEGAL || got == OTHER ? 1 : 0, 0);
        }
    }

    /** A call that throws, and changes nothing that can be seen but how many were refused. */
    void refused(CryGorge x, String call, int due, Call made) {
        String before = Look.all(x);
        int noSuch = x.status(0);
        int illegal = x.status(1);
        same(call, outcome(made), due);
        alike("all behind " + call, Look.all(x), before);
        same("status(0) behind " + call, x.status(0), noSuch + (due == NO_SUCH ? 1 : 0));
        same("status(1) behind " + call, x.status(1), illegal + (due == ILLEGAL ? 1 : 0));
    }

    /** Works a text: how many of its steps are done, and how many are refused. */
    void works(CryGorge x, String text, int done, int refused) {
        same("work \"" + text + "\"", work(x, text), done);
        same("told(9) behind it", x.told(9), refused);
    }

    /** A text of steps that are all refused, and change nothing. */
    void allRefused(CryGorge x, String text, int steps) {
        String before = Look.keeping(x);
        works(x, text, 0, steps);
        alike("all behind \"" + text + "\"", Look.keeping(x), before);
    }

    void noSuch(String call, Call made) {
        same(call, outcome(made), NO_SUCH);
    }

    void illegal(String call, Call made) {
        same(call, outcome(made), ILLEGAL);
    }

    /** A gorge in the year 300, the work that keeps its cries being done in the year 0, the law being 0. */
    CryGorge inTheYear300(String gorge, String kept) {
        CryGorge x = made(gorge);
        same("a law by which nothing fades", law(x, "0"), 1);
        work(x, kept);
        works(x, "again 40[year;year;year;year;year;];", 199, 0);
        works(x, "again 20[year;year;year;year;year;];", 100, 0);
        works(x, "year;", 1, 0);
        same("the year", x.told(2), 300);
        return x;
    }

    void end() {
        if (wrong > 0) {
            System.out.println(wrong + " answers are not as due");
            System.exit(1);
        }
    }

    static int outcome(Call made) {
        try {
            return made.answer();
        } catch (RuntimeException e) {
            if (e.getClass() == java.util.NoSuchElementException.class) {
                return NO_SUCH;
            }
            if (e.getClass() == IllegalArgumentException.class) {
                return ILLEGAL;
            }
            e.printStackTrace(System.out);
            return OTHER;
        }
    }

    static String shown(int answer) {
        switch (answer) {
            case NO_SUCH:
                return "NoSuchElementException";
            case ILLEGAL:
                return "IllegalArgumentException";
            case OTHER:
                return "another exception";
            default:
                return Integer.toString(answer);
        }
    }

    /** Feeds a text, its characters being bytes, with zeros behind it to whole twenties. */
    static void feed(CryGorge x, String text) {
        for (int from = 0; from < text.length(); from += 20) {
            int[] n = new int[5];
            for (int i = 0; i < 20; i++) {
                int sign = from + i < text.length() ? text.charAt(from + i) : 0;
                n[i / 4] = n[i / 4] << 8 | sign;
            }
            x.feed(n[0], n[1], n[2], n[3], n[4]);
        }
    }

    static int gorge(CryGorge x, String text) {
        feed(x, text);
        return x.gorge(text.length());
    }

    static int law(CryGorge x, String text) {
        feed(x, text);
        return x.law(text.length());
    }

    static int work(CryGorge x, String text) {
        feed(x, text);
        return x.work(text.length());
    }

    static int heard(CryGorge x, String text) {
        feed(x, text);
        return x.heard(text.length());
    }

    static CryGorge made(String gorge) {
        CryGorge x = new CryGorge();
        gorge(x, gorge);
        return x;
    }

    /** Tells a text and looks at what it answers and where its fault is. */
    void text(CryGorge x, String kind, String text, int due, int place) {
        int got;
        switch (kind) {
            case "gorge":
                got = gorge(x, text);
                break;
            case "law":
                got = law(x, text);
                break;
            case "work":
                got = work(x, text);
                break;
            default:
                got = heard(x, text);
        }
        String call = kind + " \"" + text + "\"";
        same(call, got, due);
        same("fault() behind " + call, x.fault(), place);
    }
}
