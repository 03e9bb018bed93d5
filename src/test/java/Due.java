/** Counts the answers that are not the ones that are due, and feeds TEXTS. */
final class Due {
    private final String test;
    private int asked = 0;
    private int wrong = 0;
    private String promise = "";

    Due(String test) {
        this.test = test;
    }

    void promise(String name) {
        promise = name;
    }

    void due(String call, long got, long want) {
        asked++;
        if (got != want) {
            wrong++;
            System.out.println(test + ", " + promise + ": " + call + " answered " + got + ", due is " + want);
        }
    }

    void end() {
        System.out.println(test + ": " + asked + " answers, " + wrong + " not as due");
        if (wrong != 0) {
            System.exit(1);
        }
    }

    /** The TAPE has this text alone then. */
    static void tape(SplitFares x, String text) {
        x.end(0);
        StringBuilder b = new StringBuilder(text);
        while (b.length() % 20 != 0) {
            b.append(' ');
        }
        for (int i = 0; i < b.length(); i += 20) {
            x.feed(four(b, i), four(b, i + 4), four(b, i + 8), four(b, i + 12), four(b, i + 16));
        }
        x.end(text.length());
    }

    private static int four(StringBuilder b, int i) {
        return b.charAt(i) << 24 | b.charAt(i + 1) << 16 | b.charAt(i + 2) << 8 | b.charAt(i + 3);
    }

    static int law(SplitFares x, String text) {
        tape(x, text);
        return x.law();
    }

    static int orders(SplitFares x, String text) {
        tape(x, text);
        return x.orders();
    }

    /** A new LAW of this text is in FORCE then; it must be one, or the test is wrong. */
    static void force(SplitFares x, String text) {
        int law = law(x, text);
        if (law < 0) {
            throw new IllegalStateException("no LAW: " + text);
        }
        x.force(law);
    }

    static int stops(int... stations) {
        int bits = 0;
        for (int s : stations) {
            bits |= 1 << s;
        }
        return bits;
    }
}
