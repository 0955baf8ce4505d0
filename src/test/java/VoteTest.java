/** Promises 27 to 37: what the bench says, whom to trust, odds, hay, wedding. */
public final class VoteTest {
    private static final Check C = new Check("VoteTest");
    private static final String KNEE = " ahead 0 fails 0 false 0;";
    private static final String THREE = "farmer a" + KNEE + "farmer b" + KNEE + "farmer c" + KNEE;

    public static void main(String[] args) {
        says();
        tips();
        right();
        trust();
        kept();
        learn();
        weigh();
        truest();
        odds();
        hay();
        wedding();
        C.finish();
    }

    /** Day 0: nobody tells rain, 1: a does, 2: a and b do, 3: all do. */
    private static KneeBench stairs(String law) {
        KneeBench x = Check.with(THREE + "weather dddd;vote " + law + ";");
        for (int d = 1; d < 4; d++) {
            for (int f = 0; f < d; f++) {
                x.twinge(f, d, true);
            }
        }
        return x;
    }

    private static void row(KneeBench x, String what, int... want) {
        for (int d = 0; d < want.length; d++) {
            long got = what.equals("says") ? x.says(d) : what.equals("tips") ? x.tips(d)
                    : what.equals("flips") ? x.flips(d) : x.believers(d);
            C.due(what + "(" + d + ")", got, want[d]);
            C.due("status()", x.status(), want[d] < 0 ? 6 : 0);
        }
    }

    private static void says() {
        row(stairs("most"), "says", 0, 0, 1, 1, -1);
        row(stairs("weights"), "says", 0, 0, 1, 1, -1);
        row(stairs("any"), "says", 0, 1, 1, 1, -1);
        row(stairs("all"), "says", 0, 0, 0, 1, -1);
        KneeBench x = stairs("weights");
        x.weigh(0, 64);
        x.weigh(1, 32);
        x.weigh(2, 32);
        row(x, "says", 0, 0, 1, 1, -1);
        x.weigh(2, 31);
        row(x, "says", 0, 1, 1, 1, -1);
        x = stairs("most");
        x.cure(2, 0);
        row(x, "says", 0, 0, 1, 1, -1);
        x.cure(1, 0);
        row(x, "says", 0, 1, 1, 1, -1);
        x.cure(0, 0);
        row(x, "says", -1, -1, -1, -1);
        x = Check.with("farmer a ahead 3 fails 0 false 0;farmer b behind 3 fails 0 false 0;weather rrrr;");
        row(x, "says", 1, -1, -1, 1, 0, 0, 0, -1);
        C.none(x, "says(62)", x.says(62), 6);
        C.none(x, "says(63)", x.says(63), 1);
        C.none(x, "says(-1)", x.says(-1), 1);
        x = Check.with("farmer a ahead 0 fails 0 false 0 elbow;weather rh;vote all;");
        row(x, "says", 0, 1, -1);
    }

    private static void tips() {
        row(stairs("most"), "tips", 0, 6, 3, 0, -1);
        row(stairs("any"), "tips", 7, 1, 0, 0, -1);
        row(stairs("all"), "tips", 0, 0, 4, 7, -1);
        KneeBench x = stairs("weights");
        x.weigh(0, 40);
        x.weigh(1, 10);
        x.weigh(2, 20);
        row(x, "tips", 1, 1, 1, 1, -1);
        x = stairs("most");
        x.cure(1, 2);
        row(x, "tips", 0, 6, 4, 5);
        C.none(x, "tips(63)", x.tips(63), 1);
        C.none(x, "tips(-1)", x.tips(-1), 1);
        C.none(x, "tips(62)", x.tips(62), 6);
    }

    private static void right() {
        KneeBench x = Check.with("farmer a ahead 1 fails 0 false 0;farmer b ahead 0 fails 0 false 0 elbow;"
                + "farmer c behind 1 fails 0 false 0 cured 3;weather rdhrd;");
        C.due("right(0)", x.right(0), 4);
        C.due("right(1)", x.right(1), 5);
        C.due("right(2)", x.right(2), 2);
        C.due("status()", x.status(), 0);
        x.lie(0, 0);
        x.lie(0, 4);
        C.due("right(0) with a lie about a day that is there", x.right(0), 3);
        x.lie(1, 0);
        C.due("right(1): rain is no hail", x.right(1), 4);
        C.none(x, "right(3)", x.right(3), 1);
        C.none(x, "right(-1)", x.right(-1), 1);
    }

    private static void trust() {
        KneeBench x = Check.with("farmer a ahead 1 fails 0 false 0;farmer b ahead 3 fails 0 false 0;"
                + "farmer c ahead 0 fails 0 false 0 cured 0;weather rdr;");
        C.fraction(x, "trust(0)", x.trust(0), 1, 1);
        x.lie(0, 0);
        C.fraction(x, "trust(0), 1 of 2", x.trust(0), 1, 2);
        C.no(x, "trust(1) of days not there", x.trust(1), 6);
        C.no(x, "trust(2), cured", x.trust(2), 6);
        C.no(x, "trust(3)", x.trust(3), 1);
        C.no(x, "trust(-1)", x.trust(-1), 1);
        C.due("top() stays", x.top(), 1);
        x = Check.with("farmer a ahead 0 fails 0 false 0;weather rdrd;");
        x.lie(0, 3);
        x.lie(0, 0);
        C.fraction(x, "trust(0), 2 of 4", x.trust(0), 1, 2);
    }

    private static void kept() {
        KneeBench x = stairs("most");
        C.due("kept() by most", x.kept(), 2);
        C.due("status()", x.status(), 0);
        x.day(1);
        C.due("kept() with a day missed", x.kept(), 2);
        x.day(0);
        C.due("kept() with a day that was right", x.kept(), 3);
        x = Check.with("farmer a behind 1 fails 0 false 0;weather rr;");
        C.due("kept(), nothing said of the last", x.kept(), 1);
        C.due("kept() of nobody", new KneeBench().kept(), 0);
    }

    private static void learn() {
        KneeBench x = Check.with(THREE + "farmer e ahead 0 fails 0 false 0 elbow;farmer g ahead 1 fails 0 false 0;"
                + "weather rd;");
        x.lie(0, 0);
        C.due("learn(0)", x.learn(0), 1);
        C.due("status()", x.status(), 0);
        int[] want = {32, 64, 64, 64, 64};
        for (int f = 0; f < 5; f++) {
            C.due("farmer(" + f + ", 5)", x.farmer(f, 5), want[f]);
        }
        x.lie(3, 0);
        C.due("learn(0), an elbow told hail", x.learn(0), 2);
        C.due("farmer(0, 5)", x.farmer(0, 5), 16);
        C.due("farmer(3, 5)", x.farmer(3, 5), 32);
        x.weigh(0, 3);
        x.learn(0);
        C.due("3 halved", x.farmer(0, 5), 1);
        C.due("learn(0) of a weight of 1", x.learn(0), 2);
        C.due("1 halved", x.farmer(0, 5), 1);
        x.lie(4, 0);
        C.due("learn(1)", x.learn(1), 1);
        C.due("farmer(4, 5)", x.farmer(4, 5), 32);
        C.none(x, "learn(2)", x.learn(2), 1);
        C.none(x, "learn(-1)", x.learn(-1), 1);
        C.due("farmer(4, 5)", x.farmer(4, 5), 32);
    }

    private static void weigh() {
        KneeBench x = Check.with(THREE);
        C.due("weigh(1, 1)", x.weigh(1, 1), true);
        C.due("status()", x.status(), 0);
        C.due("farmer(1, 5)", x.farmer(1, 5), 1);
        C.due("weigh(1, 64)", x.weigh(1, 64), true);
        C.no(x, "weigh(1, 0)", x.weigh(1, 0), 1);
        C.no(x, "weigh(1, 65)", x.weigh(1, 65), 1);
        C.no(x, "weigh(3, 1)", x.weigh(3, 1), 1);
        C.no(x, "weigh(-1, 1)", x.weigh(-1, 1), 1);
        C.due("farmer(1, 5)", x.farmer(1, 5), 64);
        C.due("farmer(0, 5)", x.farmer(0, 5), 64);
    }

    private static void truest() {
        KneeBench x = Check.with("farmer z ahead 3 fails 0 false 0;" + THREE + "weather rdr;");
        C.due("truest(), of several the first", x.truest(), 1);
        C.due("status()", x.status(), 0);
        x.lie(1, 0);
        C.due("truest()", x.truest(), 2);
        x.lie(2, 0);
        x.lie(3, 0);
        x.lie(3, 1);
        C.due("truest(), 2 of 3 twice", x.truest(), 1);
        x.cure(2, 2);
        x.lie(2, 0);
        C.due("truest(), 2 of 2", x.truest(), 2);
        x.lie(1, 1);
        x.lie(1, 2);
        x.cure(2, 0);
        x.cure(3, 0);
        C.due("truest(), 0 of 3", x.truest(), 1);
        x.cure(1, 0);
        C.none(x, "truest() of nobody who tells", x.truest(), 6);
        KneeBench nobody = new KneeBench();
        C.none(nobody, "truest() of nobody", nobody.truest(), 6);
    }

    private static void odds() {
        KneeBench x = Check.with("farmer a ahead 0 fails 4 false 2;farmer b ahead 0 fails 8 false 1;"
                + "farmer c ahead 0 fails 1 false 1 elbow;farmer e ahead 1 fails 16 false 0;weather rd;");
        x.cure(3, 0);
        // Rain: 4 * 12 * 8, dry: 12 * 2 * 1.
        C.fraction(x, "odds(0, 4), both tell rain", x.odds(0, 4), 16, 17);
        // Rain: 4 * 4 * 8, dry: 12 * 14 * 15.
        C.fraction(x, "odds(1, 4), both tell dry", x.odds(1, 4), 16, 331);
        C.fraction(x, "odds(62, 6), nobody tells", x.odds(62, 6), 3, 8);
        C.fraction(x, "odds(5, 1)", x.odds(5, 1), 1, 16);
        C.fraction(x, "odds(5, 15)", x.odds(5, 15), 15, 16);
        x.brandy(0, 0);
        C.fraction(x, "odds(0, 4), a never false", x.odds(0, 4), 1, 1);
        x = Check.with("farmer a ahead 0 fails 0 false 3;weather dr;");
        C.fraction(x, "odds(0, 4), one that never fails tells dry", x.odds(0, 4), 0, 1);
        x = Check.with("farmer a ahead 0 fails 16 false 0;farmer b ahead 0 fails 0 false 16;weather rd;");
        C.no(x, "odds(0, 4), what can never be", x.odds(0, 4), 7);
        C.no(x, "odds(1, 4), what can never be", x.odds(1, 4), 7);
        C.no(x, "odds(0, 0)", x.odds(0, 0), 1);
        C.no(x, "odds(0, 16)", x.odds(0, 16), 1);
        C.no(x, "odds(-1, 4)", x.odds(-1, 4), 1);
        C.no(x, "odds(63, 4)", x.odds(63, 4), 1);
        C.due("top() stays", x.top(), 0);
        StringBuilder eight = new StringBuilder();
        for (char c = 'a'; c < 'i'; c++) {
            eight.append("farmer ").append(c).append(" ahead 0 fails 1 false 2;");
        }
        x = Check.with(eight + "weather r;");
        // 15 to the eighth, 2 to the eighth.
        C.fraction(x, "odds(0, 8) of eight", x.odds(0, 8), 2562890625L, 2562890881L);
    }

    private static void hay() {
        KneeBench x = Check.with("farmer a ahead 0 fails 4 false 2;weather dr;");
        // Day 0: dry 12 * 14 of 12 * 14 + 4 * 4 = 168 of 184: 913043 millionths.
        C.fraction(x, "hay(0, 1, 4)", x.hay(0, 1, 4), 913043, 1000000);
        // Day 1: dry 12 * 2 of 24 + 4 * 12 = 24 of 72: 333333 millionths.
        C.fraction(x, "hay(1, 1, 4)", x.hay(1, 1, 4), 333333, 1000000);
        C.fraction(x, "hay(0, 2, 4)", x.hay(0, 2, 4), 304347362319L, 1000000000000L);
        C.fraction(x, "hay(2, 3, 4), nobody tells", x.hay(2, 3, 4), 27, 64);
        C.fraction(x, "hay(60, 3, 8)", x.hay(60, 3, 8), 1, 8);
        C.fraction(x, "hay(62, 1, 15)", x.hay(62, 1, 15), 1, 16);
        C.no(x, "hay(61, 3, 8)", x.hay(61, 3, 8), 1);
        C.no(x, "hay(63, 1, 8)", x.hay(63, 1, 8), 1);
        C.no(x, "hay(-1, 1, 8)", x.hay(-1, 1, 8), 1);
        C.no(x, "hay(0, 0, 8)", x.hay(0, 0, 8), 1);
        C.no(x, "hay(0, 4, 8)", x.hay(0, 4, 8), 1);
        C.no(x, "hay(0, 1, 0)", x.hay(0, 1, 0), 1);
        C.no(x, "hay(0, 1, 16)", x.hay(0, 1, 16), 1);
        C.no(x, "hay(big, big, 8)", x.hay(Integer.MAX_VALUE, Integer.MAX_VALUE, 8), 1);
        x = Check.with("farmer a ahead 0 fails 16 false 0;weather ddr;");
        C.no(x, "hay(0, 3, 4), the last has no odds", x.hay(0, 3, 4), 7);
        C.fraction(x, "hay(0, 2, 4)", x.hay(0, 2, 4), 9, 16);
        x = Check.with("farmer a ahead 0 fails 0 false 0;weather rd;");
        C.fraction(x, "hay(0, 2, 4), sure rain", x.hay(0, 2, 4), 0, 1);
    }

    private static void wedding() {
        KneeBench x = stairs("most");
        C.due("wedding(0, 3)", x.wedding(0, 3), 0);
        C.due("status()", x.status(), 0);
        C.due("wedding(1, 3)", x.wedding(1, 3), 1);
        C.due("wedding(2, 3), none is dry", x.wedding(2, 3), 2);
        C.due("wedding(2, 62), nobody tells of 4", x.wedding(2, 62), 4);
        C.due("wedding(9, 62)", x.wedding(9, 62), 9);
        C.due("wedding(62, 62)", x.wedding(62, 62), 62);
        x.weigh(0, 1);
        x.weigh(2, 1);
        C.due("wedding(1, 2)", x.wedding(1, 2), 1);
        x.twinge(1, 1, true);
        x.twinge(1, 2, false);
        C.due("wedding(1, 2) by weights", x.wedding(1, 2), 2);
        C.none(x, "wedding(1, 0)", x.wedding(1, 0), 1);
        C.none(x, "wedding(-1, 0)", x.wedding(-1, 0), 1);
        C.none(x, "wedding(0, 63)", x.wedding(0, 63), 1);
        C.none(x, "wedding(63, 63)", x.wedding(63, 63), 1);
    }
}
