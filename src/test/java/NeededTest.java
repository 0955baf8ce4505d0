/** Promises 38 to 65: who sits, who is needed. */
public final class NeededTest {
    private static final Check C = new Check("NeededTest");
    private static final String KNEE = " ahead 0 fails 0 false 0;";
    private static final String THREE = "farmer a" + KNEE + "farmer b" + KNEE + "farmer c" + KNEE;

    public static void main(String[] args) {
        seats();
        fewest();
        lag();
        stairs();
        spell();
        believers();
        alike();
        toldBy();
        flips();
        span();
        rival();
        quiet();
        useful();
        moods();
        silent();
        sure();
        laws();
        streak();
        clashes();
        fever();
        lies();
        nextWrong();
        warned();
        agrees();
        C.finish();
    }

    private static void row(KneeBench x, int... want) {
        for (int k = 0; k < want.length; k++) {
            C.due("seatAt(" + k + ")", x.seatAt(k), want[k]);
            C.due("status()", x.status(), 0);
        }
        C.none(x, "seatAt behind the last", x.seatAt(want.length), 6);
        C.none(x, "seatAt(-1)", x.seatAt(-1), 6);
    }

    private static void seats() {
        KneeBench x = new KneeBench();
        C.none(x, "seats() of nobody", x.seats(), 6);
        Check.bench(x, THREE);
        C.none(x, "seatAt(0) ahead of seats()", x.seatAt(0), 6);
        C.due("seats() without dislikes", x.seats(), 0);
        C.due("status()", x.status(), 0);
        row(x, 0, 1, 2);
        Check.bench(x, THREE + "dislikes a b 9;dislikes a c 2;dislikes b c 3;");
        row(x, 0, 1, 2);
        C.due("seats()", x.seats(), 5);
        row(x, 0, 2, 1);
        Check.bench(x, THREE + "dislikes a b 1;dislikes b c 1;dislikes a c 1;");
        C.due("seats(), all the same", x.seats(), 2);
        row(x, 0, 1, 2);
        Check.bench(x, "");
        C.none(x, "seats() of nobody", x.seats(), 6);
        row(x, 0, 1, 2);
        Check.bench(x, "farmer a" + KNEE);
        C.due("seats() of one", x.seats(), 0);
        row(x, 0);
        StringBuilder eight = new StringBuilder();
        for (char c = 'a'; c < 'i'; c++) {
            eight.append("farmer ").append(c).append(KNEE);
        }
        // Only the row a c e g h f d b, or that row turned round, is free of dislikes of 9.
        String row = "aceghfdb";
        for (char c = 'a'; c < 'i'; c++) {
            for (char d = (char) (c + 1); d < 'i'; d++) {
                if (Math.abs(row.indexOf(c) - row.indexOf(d)) > 1) {
                    eight.append("dislikes ").append(c).append(' ').append(d).append(" 9;");
                }
            }
        }
        Check.bench(x, eight.toString());
        C.due("seats() of eight", x.seats(), 0);
        row(x, 0, 2, 4, 6, 7, 5, 3, 1);
    }

    private static void fewest() {
        KneeBench x = Check.with(THREE + "farmer e ahead 0 fails 0 false 0 elbow;weather dddrrh;");
        for (int f = 0; f < 3; f++) {
            for (int d = 0; d < 6; d++) {
                x.twinge(f, d, false);
            }
        }
        C.none(x, "fewest(60), no set does", x.fewest(60), 6);
        x.twinge(0, 3, true);
        x.twinge(0, 4, true);
        x.twinge(0, 0, true);
        x.twinge(1, 3, true);
        x.twinge(2, 4, true);
        C.due("fewest(1)", x.fewest(1), 9);
        C.due("status()", x.status(), 0);
        C.due("fewest(0)", x.fewest(0), 14);
        x.twinge(1, 4, true);
        C.due("fewest(0), two do", x.fewest(0), 10);
        C.due("fewest(60), the least as a number", x.fewest(60), 9);
        x.twinge(2, 3, true);
        x.twinge(2, 5, true);
        C.due("fewest(60), one does", x.fewest(60), 4);
        x.twinge(2, 0, true);
        x.twinge(2, 1, true);
        C.due("fewest(2)", x.fewest(2), 4);
        C.due("fewest(1)", x.fewest(1), 9);
        C.none(x, "fewest(-1)", x.fewest(-1), 1);
        C.none(x, "fewest(61)", x.fewest(61), 1);
        x = Check.with(THREE + "weather ddd;");
        x.lie(0, 0);
        C.due("fewest(0), no day is wet", x.fewest(0), 0);
        C.due("status()", x.status(), 0);
        C.due("fewest(0) of nothing", new KneeBench().fewest(0), 0);
    }

    private static void lag() {
        KneeBench x = Check.with("farmer a behind 2 fails 0 false 0;farmer b ahead 3 fails 0 false 0 elbow;"
                + "weather rddrrdddhd;");
        C.due("fits(0, -2)", x.fits(0, -2), 8);
        C.due("fits(0, 0), on all that are there", x.fits(0, 0), 3);
        C.due("lag(0)", x.lag(0), -2);
        C.due("status()", x.status(), 0);
        C.due("fits(1, 3)", x.fits(1, 3), 7);
        C.due("fits(1, 0), by hail alone", x.fits(1, 0), 8);
        C.due("fits(1, 2)", x.fits(1, 2), 6);
        C.due("lag(1)", x.lag(1), 0);
        x.cure(0, 0);
        C.due("fits(0, -2) of one that is cured", x.fits(0, -2), 8);
        C.none(x, "fits(0, 4)", x.fits(0, 4), 1);
        C.none(x, "fits(0, -4)", x.fits(0, -4), 1);
        C.none(x, "fits(2, 0)", x.fits(2, 0), 1);
        C.none(x, "fits(-1, 0)", x.fits(-1, 0), 1);
        C.none(x, "lag(2)", x.lag(2), 1);
        C.none(x, "lag(-1)", x.lag(-1), 1);
        x = Check.with("farmer a ahead 1 fails 0 false 0;weather drdr;");
        // By -1 and by 1 three days fit.
        x.twinge(0, 0, true);
        x.twinge(0, 1, false);
        x.twinge(0, 2, true);
        x.twinge(0, 3, false);
        C.due("fits(0, 0)", x.fits(0, 0), 0);
        C.due("fits(0, -1)", x.fits(0, -1), 3);
        C.due("fits(0, 1)", x.fits(0, 1), 3);
        C.due("lag(0), of two the one below 0", x.lag(0), -1);
        C.due("status() tells it from NONE", x.status(), 0);
        x = Check.with("farmer a ahead 3 fails 0 false 0;weather rdddrdrr;");
        for (int d = 5; d < 8; d++) {
            x.twinge(0, d, false);
        }
        C.due("fits(0, 3)", x.fits(0, 3), 5);
        C.due("fits(0, -3)", x.fits(0, -3), 3);
        C.due("lag(0) of no days", Check.with("farmer a behind 3 fails 0 false 0;").lag(0), 0);
    }

    private static void stairs() {
        KneeBench x = Check.with("farmer a ahead 0 fails 0 false 0;weather drdd;");
        x.lie(0, 0);
        x.lie(0, 2);
        C.none(x, "stairs of a missing tray", x.stairs(0, 0, 1), 2);
        x.tray(0, 1, 3);
        C.none(x, "stairs of too few", x.stairs(0, 0, 1), 3);
        x.tray(0, 1, 5);
        x.write(0, 4, -9);
        C.due("stairs of none", x.stairs(0, 0, 1), 0);
        x.write(0, 0, 10);
        x.write(0, 1, 999);
        x.write(0, 2, 20);
        x.write(0, 3, 30);
        C.due("stairs of 10", x.stairs(0, 0, 10), 2);
        C.due("status()", x.status(), 0);
        C.due("stairs of 11", x.stairs(0, 0, 11), 1);
        C.due("stairs of 21", x.stairs(0, 0, 21), 0);
        C.due("stairs of 999", x.stairs(0, 0, 999), 0);
        x.lie(0, 1);
        x.cure(0, 0);
        x.lie(0, 1);
        C.due("stairs of 999 by one that should not", x.stairs(0, 0, 999), 1);
        C.none(x, "stairs(0, 0, 0)", x.stairs(0, 0, 0), 1);
        C.none(x, "stairs(0, 0, 1000)", x.stairs(0, 0, 1000), 1);
        C.none(x, "stairs(0, 4, 1)", x.stairs(0, 4, 1), 1);
        C.none(x, "stairs(0, -1, 1)", x.stairs(0, -1, 1), 1);
        C.none(x, "stairs(1, 0, 1)", x.stairs(1, 0, 1), 1);
        C.none(x, "stairs(-1, 3, 1)", x.stairs(-1, 3, 1), 1);
        x.write(0, 3, 1000);
        C.none(x, "stairs with 1000", x.stairs(0, 0, 1), 5);
        x.write(0, 3, -1);
        C.none(x, "stairs with -1", x.stairs(0, 0, 1), 5);
        x.tray(1, 3, 3);
        x.write(1, 0, -1);
        C.none(x, "too few is asked ahead of what they are", x.stairs(0, 1, 1), 3);
    }

    private static void spell() {
        KneeBench x = Check.with("weather ddrhrdddd;");
        C.due("spell(0)", x.spell(0), 4);
        C.due("spell(1)", x.spell(1), 3);
        C.due("status()", x.status(), 0);
        C.none(x, "spell(2)", x.spell(2), 1);
        C.none(x, "spell(-1)", x.spell(-1), 1);
        C.due("spell(0) of no days", new KneeBench().spell(0), 0);
        C.due("spell(1) of no days", new KneeBench().spell(1), 0);
        C.due("spell(0) of 60", Check.with("weather " + "d".repeat(60) + ";").spell(0), 60);
        C.due("spell(1) of 60", Check.with("weather " + "h".repeat(60) + ";").spell(1), 60);
    }

    private static void believers() {
        KneeBench x = Check.with("farmer a ahead 1 fails 0 false 0;" + THREE.substring(33) + "weather rrd;");
        C.due("believers(0)", x.believers(0), 6);
        C.due("believers(1)", x.believers(1), 7);
        C.due("believers(2)", x.believers(2), 0);
        C.due("believers(62)", x.believers(62), 0);
        C.due("status()", x.status(), 0);
        C.none(x, "believers(63)", x.believers(63), 1);
        C.none(x, "believers(-1)", x.believers(-1), 1);
    }

    private static void alike() {
        KneeBench x = Check.with("farmer a ahead 0 fails 0 false 0;farmer b ahead 1 fails 0 false 0;weather rrdrr;");
        C.due("alike(0, 1)", x.alike(0, 1), 2);
        C.due("alike(1, 0)", x.alike(1, 0), 2);
        C.due("status()", x.status(), 0);
        C.none(x, "alike(0, 0)", x.alike(0, 0), 1);
        C.none(x, "alike(0, 2)", x.alike(0, 2), 1);
        C.none(x, "alike(-1, 0)", x.alike(-1, 0), 1);
    }

    private static void toldBy() {
        KneeBench x = Check.with("farmer a ahead 3 fails 0 false 0;farmer b behind 1 fails 0 false 0 cured 2;"
                + "farmer c behind 3 fails 0 false 0;weather ddddd;");
        C.due("toldBy(0)", x.toldBy(0), 2);
        C.due("toldBy(1)", x.toldBy(1), 1);
        C.due("toldBy(2)", x.toldBy(2), 2);
        C.due("status()", x.status(), 0);
        C.none(x, "toldBy(3)", x.toldBy(3), 1);
        C.none(x, "toldBy(-1)", x.toldBy(-1), 1);
    }

    private static KneeBench lined(String law, String rainers) {
        KneeBench x = Check.with(THREE + "farmer e" + KNEE + "weather d;vote " + law + ";");
        for (int f = 0; f < 4; f++) {
            x.twinge(f, 0, rainers.charAt(f) == '1');
        }
        return x;
    }

    private static void flips() {
        C.due("flips, most, none of 4", lined("most", "0000").flips(0), 3);
        C.due("flips, most, 2 of 4", lined("most", "1100").flips(0), 1);
        C.due("flips, most, all of 4", lined("most", "1111").flips(0), 2);
        C.due("flips, any, none of 4", lined("any", "0000").flips(0), 1);
        C.due("flips, any, 3 of 4", lined("any", "1110").flips(0), 3);
        C.due("flips, all, 1 of 4", lined("all", "1000").flips(0), 3);
        C.due("flips, all, all of 4", lined("all", "1111").flips(0), 1);
        KneeBench x = lined("weights", "1110");
        C.due("flips, weights", x.flips(0), 1);
        x.weigh(3, 1);
        C.due("flips, weights, a light one against", x.flips(0), 2);
        x.weigh(0, 10);
        x.weigh(1, 9);
        x.weigh(2, 2);
        C.due("flips, weights, the heaviest makes it even", x.flips(0), 1);
        x.weigh(2, 4);
        C.due("flips, weights, the heaviest is not enough", x.flips(0), 2);
        C.none(x, "flips(1)", x.flips(1), 6);
        C.none(x, "flips(63)", x.flips(63), 1);
        C.none(x, "flips(-1)", x.flips(-1), 1);
    }

    private static void span() {
        KneeBench x = Check.with("farmer a ahead 1 fails 0 false 0;weather rdrdd;");
        x.twinge(0, 4, true);
        C.due("span(0, 62)", x.span(0, 62), 2);
        C.due("span(0, 4)", x.span(0, 4), 1);
        C.due("span(2, 2)", x.span(2, 2), 1);
        C.due("span(62, 62)", x.span(62, 62), 0);
        C.due("status()", x.status(), 0);
        C.none(x, "span(2, 1)", x.span(2, 1), 1);
        C.none(x, "span(-1, 1)", x.span(-1, 1), 1);
        C.none(x, "span(0, 63)", x.span(0, 63), 1);
    }

    private static void rival() {
        KneeBench x = Check.with("farmer a ahead 0 fails 0 false 0;weather rr;");
        C.none(x, "rival(0) of no other", x.rival(0), 6);
        C.none(x, "rival(1)", x.rival(1), 1);
        C.none(x, "rival(-1)", x.rival(-1), 1);
        x = Check.with(THREE + "weather rrr;");
        C.due("rival(0)", x.rival(0), 1);
        C.due("rival(1)", x.rival(1), 0);
        C.due("status()", x.status(), 0);
        x.lie(1, 0);
        C.due("rival(0)", x.rival(0), 2);
        C.due("rival(2)", x.rival(2), 0);
        for (int d = 0; d < 3; d++) {
            x.twinge(2, d, false);
        }
        C.due("rival(2) with no twinges alike", x.rival(2), 0);
    }

    private static void quiet() {
        KneeBench x = Check.with("farmer a ahead 0 fails 0 false 0;farmer b ahead 1 fails 0 false 0;weather ddrdddr;");
        C.due("quiet(0)", x.quiet(0), 3);
        C.due("quiet(1)", x.quiet(1), 3);
        C.due("status()", x.status(), 0);
        C.none(x, "quiet(2)", x.quiet(2), 1);
        C.none(x, "quiet(-1)", x.quiet(-1), 1);
        C.due("quiet(0) of no days", Check.with(THREE).quiet(0), 0);
    }

    private static void useful() {
        KneeBench x = Check.with(THREE + "weather rrdd;vote any;");
        C.due("useful(0) beside the like", x.useful(0), 0);
        for (int d = 0; d < 4; d++) {
            x.twinge(1, d, false);
            x.twinge(2, d, d == 3);
        }
        C.due("useful(0), who alone tells rain", x.useful(0), 2);
        C.due("useful(1)", x.useful(1), 0);
        C.due("useful(2), who spoils a day", x.useful(2), -1);
        C.due("status() tells it from NONE", x.status(), 0);
        C.none(x, "useful(3)", x.useful(3), 1);
        C.none(x, "useful(-1)", x.useful(-1), 1);
        C.due("useful(0) of one alone", Check.with("farmer a" + KNEE + "weather rdd;").useful(0), 3);
    }

    private static void moods() {
        KneeBench x = Check.with(THREE + "farmer e" + KNEE + "dislikes a b 5;dislikes b c 9;dislikes a c 5;");
        int[] mood = {10, 14, 14, 0};
        int[] foe = {1, 2, 1, -1};
        for (int f = 0; f < 4; f++) {
            C.due("mood(" + f + ")", x.mood(f), mood[f]);
            C.due("status()", x.status(), 0);
            C.due("foe(" + f + ")", x.foe(f), foe[f]);
            C.due("status()", x.status(), foe[f] < 0 ? 6 : 0);
        }
        C.none(x, "mood(4)", x.mood(4), 1);
        C.none(x, "mood(-1)", x.mood(-1), 1);
        C.none(x, "foe(4)", x.foe(4), 1);
        C.none(x, "foe(-1)", x.foe(-1), 1);
    }

    private static void silent() {
        KneeBench x = Check.with("farmer a ahead 2 fails 0 false 0;farmer b behind 1 fails 0 false 0 cured 2;"
                + "weather ddddd;");
        C.due("silent()", x.silent(), 1);
        C.due("status()", x.status(), 0);
        x.cure(0, 0);
        C.due("silent()", x.silent(), 4);
        C.due("silent() of nobody", Check.with("weather ddd;").silent(), 3);
    }

    private static void sure() {
        KneeBench x = Check.with(THREE + "weather d;");
        x.weigh(0, 5);
        x.weigh(1, 3);
        x.weigh(2, 1);
        C.due("sure(0)", x.sure(0), -9);
        x.lie(0, 0);
        C.due("sure(0)", x.sure(0), 1);
        C.due("status()", x.status(), 0);
        x.weigh(2, 3);
        C.due("sure(0)", x.sure(0), -1);
        C.due("status() tells it from NONE", x.status(), 0);
        C.none(x, "sure(1)", x.sure(1), 6);
        C.none(x, "sure(63)", x.sure(63), 1);
        C.none(x, "sure(-1)", x.sure(-1), 1);
    }

    private static void laws() {
        KneeBench x = Check.with(THREE + "weather rrrrd;vote all;");
        C.due("bestLaw(), of several the first", x.bestLaw(), 0);
        for (int d = 0; d < 3; d++) {
            x.twinge(0, d, false);
        }
        x.twinge(1, 0, false);
        x.twinge(1, 1, false);
        x.weigh(2, 64);
        x.weigh(0, 20);
        x.weigh(1, 20);
        // Tell rain: day 0 and 1 c, 2 b and c, 3 all, 4 none.
        C.due("keptBy(0)", x.keptBy(0), 3);
        C.due("keptBy(1)", x.keptBy(1), 5);
        C.due("keptBy(2)", x.keptBy(2), 5);
        C.due("keptBy(3)", x.keptBy(3), 2);
        C.due("status()", x.status(), 0);
        C.due("kept() by all", x.kept(), 2);
        C.due("bestLaw()", x.bestLaw(), 1);
        x.weigh(2, 40);
        C.due("bestLaw() with a lighter one", x.bestLaw(), 2);
        C.due("told(4) stays", x.told(4), 3);
        x = Check.with(THREE + "weather ddd;");
        x.twinge(0, 0, true);
        x.twinge(1, 0, true);
        C.due("bestLaw() where all must tell it", x.bestLaw(), 3);
        C.none(x, "keptBy(-1)", x.keptBy(-1), 1);
        C.none(x, "keptBy(4)", x.keptBy(4), 1);
        C.due("bestLaw() of nobody", new KneeBench().bestLaw(), 0);
    }

    private static void streak() {
        KneeBench x = Check.with("farmer a ahead 1 fails 0 false 0;farmer b ahead 0 fails 0 false 0 elbow;weather rdrhdr;");
        C.due("streak(0)", x.streak(0), 5);
        x.lie(0, 1);
        C.due("streak(0)", x.streak(0), 3);
        C.due("status()", x.status(), 0);
        C.due("streak(1) by hail", x.streak(1), 6);
        C.none(x, "streak(2)", x.streak(2), 1);
        C.none(x, "streak(-1)", x.streak(-1), 1);
        C.due("streak(0) of no days", Check.with(THREE).streak(0), 0);
    }

    private static void clashes() {
        KneeBench x = Check.with("farmer a ahead 1 fails 0 false 0;farmer b behind 1 fails 0 false 0;weather rdrd;");
        C.due("clashes(0, 1)", x.clashes(0, 1), 0);
        x.lie(0, 0);
        x.lie(0, 2);
        x.lie(1, 0);
        C.due("clashes(0, 1), both tell of 1 and 2", x.clashes(0, 1), 1);
        C.due("clashes(1, 0)", x.clashes(1, 0), 1);
        C.due("status()", x.status(), 0);
        C.none(x, "clashes(0, 0)", x.clashes(0, 0), 1);
        C.none(x, "clashes(0, 2)", x.clashes(0, 2), 1);
        C.none(x, "clashes(-1, 1)", x.clashes(-1, 1), 1);
    }

    private static void fever() {
        KneeBench x = new KneeBench();
        C.none(x, "fever() of no days", x.fever(), 6);
        x.day(0);
        C.due("fever() of nobody", x.fever(), 0);
        C.due("status()", x.status(), 0);
        x = Check.with(THREE + "weather drrd;");
        C.due("fever(), of several the first", x.fever(), 1);
        x.lie(0, 1);
        C.due("fever()", x.fever(), 2);
    }

    private static void lies() {
        KneeBench x = Check.with("farmer a ahead 1 fails 0 false 0;weather rdr;");
        C.due("lies(0): of the days 1 and 2", x.lies(0), 2);
        C.due("lies(1)", x.lies(1), 0);
        C.due("status()", x.status(), 0);
        x.lie(0, 0);
        C.due("lies(0)", x.lies(0), 1);
        C.due("lies(1)", x.lies(1), 1);
        C.due("nothing was turned", x.kept(), 1);
        x = Check.with(THREE + "weather rd;vote any;");
        C.due("lies(0), any", x.lies(0), 3);
        C.none(x, "lies(2)", x.lies(2), 1);
        C.none(x, "lies(-1)", x.lies(-1), 1);
    }

    private static void nextWrong() {
        KneeBench x = Check.with("farmer a behind 1 fails 0 false 0;weather rdrdr;");
        C.none(x, "nextWrong(0), the last is not told of", x.nextWrong(0), 6);
        x.lie(0, 2);
        x.lie(0, 4);
        C.due("nextWrong(0)", x.nextWrong(0), 1);
        C.due("nextWrong(1)", x.nextWrong(1), 1);
        C.due("nextWrong(2)", x.nextWrong(2), 3);
        C.due("status()", x.status(), 0);
        C.none(x, "nextWrong(4)", x.nextWrong(4), 6);
        C.none(x, "nextWrong(59)", x.nextWrong(59), 6);
        C.none(x, "nextWrong(60)", x.nextWrong(60), 1);
        C.none(x, "nextWrong(-1)", x.nextWrong(-1), 1);
    }

    private static void warned() {
        KneeBench x = Check.with("farmer a ahead 1 fails 0 false 0;farmer b ahead 0 fails 0 false 0 elbow;weather rrhdr;");
        C.due("warned(0)", x.warned(0), 3);
        C.due("warned(1)", x.warned(1), 1);
        C.due("status()", x.status(), 0);
        x.lie(1, 3);
        C.due("warned(0), a dry day does not count", x.warned(0), 3);
        x.lie(1, 0);
        C.due("warned(0)", x.warned(0), 4);
        C.none(x, "warned(2)", x.warned(2), 1);
        C.none(x, "warned(-1)", x.warned(-1), 1);
    }

    private static void agrees() {
        KneeBench x = Check.with(THREE + "farmer e ahead 1 fails 0 false 0;weather rdrd;");
        x.cure(2, 2);
        x.lie(0, 0);
        x.lie(0, 1);
        C.due("agrees(0), 2 and 3", x.agrees(0), 2);
        C.due("agrees(1)", x.agrees(1), 4);
        C.due("agrees(2), of 0 and 1", x.agrees(2), 2);
        C.due("agrees(3), of 1 to 3", x.agrees(3), 3);
        C.due("status()", x.status(), 0);
        C.none(x, "agrees(4)", x.agrees(4), 1);
        C.none(x, "agrees(-1)", x.agrees(-1), 1);
    }
}
