/** Counts answers that are not as due, and feeds texts to the tape. */
final class Check {
    static final int NO_SUCH = -1001;
    static final int ILLEGAL = -1002;
    static final int OTHER = -1003;

    interface Call {
        int answer();
    }

    private int wrong;

    void same(String call, int got, int due) {
        if (got != due) {
            wrong++;
            System.out.println(call + " answered " + shown(got) + ", due is " + shown(due));
        }
    }

    void noSuch(String call, Call made) {
        same(call, outcome(made), NO_SUCH);
    }

    void illegal(String call, Call made) {
        same(call, outcome(made), ILLEGAL);
    }

    void end() {
        if (wrong > 0) {
            System.out.println(wrong + " answers are not as due");
            System.exit(1);
        }
    }

    static int outcome(Call made) {
        try {
            return made.answer();
        } catch (RuntimeException e) {
            if (e.getClass() == java.util.NoSuchElementException.class) {
                return NO_SUCH;
            }
            if (e.getClass() == IllegalArgumentException.class) {
                return ILLEGAL;
            }
            e.printStackTrace(System.out);
            return OTHER;
        }
    }

    static String shown(int answer) {
        switch (answer) {
            case NO_SUCH:
                return "NoSuchElementException";
            case ILLEGAL:
                return "IllegalArgumentException";
            case OTHER:
                return "another exception";
            default:
                return Integer.toString(answer);
        }
    }

    /** Feeds a text, its characters being bytes, with zeros behind it to whole twenties. */
    static void feed(CryGorge x, String text) {
        for (int from = 0; from < text.length(); from += 20) {
            int[] n = new int[5];
            for (int i = 0; i < 20; i++) {
                int sign = from + i < text.length() ? text.charAt(from + i) : 0;
                n[i / 4] = n[i / 4] << 8 | sign;
            }
            x.feed(n[0], n[1], n[2], n[3], n[4]);
        }
    }

    static int gorge(CryGorge x, String text) {
        feed(x, text);
        return x.gorge(text.length());
    }

    static int law(CryGorge x, String text) {
        feed(x, text);
        return x.law(text.length());
    }

    static int work(CryGorge x, String text) {
        feed(x, text);
        return x.work(text.length());
    }

    static int heard(CryGorge x, String text) {
        feed(x, text);
        return x.heard(text.length());
    }

    static CryGorge made(String gorge) {
        CryGorge x = new CryGorge();
        gorge(x, gorge);
        return x;
    }

    /** Tells a text and looks at what it answers and where its fault is. */
    void text(CryGorge x, String kind, String text, int due, int place) {
        int got;
        switch (kind) {
            case "gorge":
                got = gorge(x, text);
                break;
            case "law":
                got = law(x, text);
                break;
            case "work":
                got = work(x, text);
                break;
            default:
                got = heard(x, text);
        }
        String call = kind + " \"" + text + "\"";
        same(call, got, due);
        same("fault() behind " + call, x.fault(), place);
    }
}
