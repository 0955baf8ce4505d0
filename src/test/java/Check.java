/** Counts answers, tells those that are not as due, and feeds texts to a tape. */
final class Check {
    private String name;
    private int asked = 0;
    private int wrong = 0;

    Check(String name) {
        this.name = name;
    }

    /** The answers behind are told with this name. */
    void begin(String test) {
        name = test;
    }

    void due(String call, long got, long want) {
        asked++;
        if (got != want) {
            wrong++;
            System.out.println(name + ": " + call + " answered " + got + ", due is " + want);
        }
    }

    void due(String call, boolean got, boolean want) {
        due(call, got ? 1L : 0L, want ? 1L : 0L);
    }

    /** A call that must be refused: NONE, and the STATUS that is due. */
    void none(KneeBench x, String call, long got, int status) {
        due(call, got, KneeBench.NONE);
        due("status() behind " + call, x.status(), status);
    }

    /** A call that must be refused: false, and the STATUS that is due. */
    void no(KneeBench x, String call, boolean got, int status) {
        due(call, got, false);
        due("status() behind " + call, x.status(), status);
    }

    void fraction(KneeBench x, String call, boolean got, long top, long bottom) {
        due(call, got, true);
        due("status() behind " + call, x.status(), 0);
        due("top() behind " + call, x.top(), top);
        due("bottom() behind " + call, x.bottom(), bottom);
    }

    /** Puts a text on the tape, filled up with bytes of 0: what must be read is its length. */
    static int feed(KneeBench x, String text) {
        int had = 0;
        for (int i = 0; i < text.length(); i += 20) {
            had = x.feed(four(text, i), four(text, i + 4), four(text, i + 8), four(text, i + 12), four(text, i + 16));
        }
        return had;
    }

    static int four(String text, int at) {
        int v = 0;
        for (int i = at; i < at + 4; i++) {
            v = v << 8 | (i < text.length() ? text.charAt(i) & 255 : 0);
        }
        return v;
    }

    static int bench(KneeBench x, String text) {
        feed(x, text);
        return x.bench(text.length());
    }

    static int season(KneeBench x, String text) {
        feed(x, text);
        return x.season(text.length());
    }

    /** A new object with such a bench. */
    static KneeBench with(String text) {
        KneeBench x = new KneeBench();
        if (bench(x, text) < 0) {
            throw new IllegalStateException("a test's own bench is faulty at " + x.fault(1) + ": " + text);
        }
        return x;
    }

    void benchFault(String text, int kind, int place) {
        KneeBench x = new KneeBench();
        none(x, "bench of '" + text + "'", bench(x, text), 9);
        due("fault(0) of '" + text + "'", x.fault(0), kind);
        due("fault(1) of '" + text + "'", x.fault(1), place);
    }

    void seasonFault(KneeBench x, String text, int kind, int place) {
        none(x, "season of '" + text + "'", season(x, text), 9);
        due("fault(0) of '" + text + "'", x.fault(0), kind);
        due("fault(1) of '" + text + "'", x.fault(1), place);
    }

    void finish() {
        System.out.println(name + ": " + asked + " answers, " + wrong + " not as due");
        if (wrong > 0) {
            System.exit(1);
        }
    }
}
