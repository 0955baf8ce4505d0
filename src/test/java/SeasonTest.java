/** Promises 66 to 68: seasons that are lived, what came of them, and their mean. The seed 0 draws 6, 11, 8, 3, 5, 7. */
public final class SeasonTest {
    private static final Check C = new Check("SeasonTest");
    private static final String A = "farmer a ahead 0 fails 0 false 0;";
    private static final String B = "farmer b ahead 0 fails 0 false 0;";

    public static void main(String[] args) {
        wrongInputs();
        days();
        feel();
        hands();
        whens();
        loops();
        limit();
        stop();
        lived();
        mean();
        C.finish();
    }

    private static KneeBench with(String bench, String season) {
        KneeBench x = Check.with(bench);
        if (Check.season(x, season) < 0) {
            throw new IllegalStateException("a test's own season is faulty at " + x.fault(1) + ": " + season);
        }
        return x;
    }

    private static void life(KneeBench x, int seed, int steps, int... lived) {
        C.due("live(" + seed + ")", x.live(seed), steps);
        C.due("status()", x.status(), 0);
        for (int what = 0; what < lived.length; what++) {
            C.due("lived(" + what + ")", x.lived(what), lived[what]);
            C.due("status()", x.status(), 0);
        }
    }

    private static String weather(KneeBench x) {
        StringBuilder b = new StringBuilder();
        for (int d = 0; d < x.told(1); d++) {
            b.append("drh".charAt(x.weather(d)));
        }
        return b.toString();
    }

    private static String felt(KneeBench x, int f) {
        StringBuilder b = new StringBuilder();
        for (int d = 0; d < x.told(1); d++) {
            b.append(x.twinges(f, d));
        }
        return b.toString();
    }

    private static void same(String what, String got, String want) {
        C.due(what + " " + got + ", due is " + want, got.equals(want), true);
    }

    private static void wrongInputs() {
        KneeBench x = new KneeBench();
        C.none(x, "live(-1)", x.live(-1), 1);
        C.none(x, "live(10000)", x.live(10000), 1);
        C.none(x, "live(0) without a season", x.live(0), 6);
        C.none(x, "lived(0)", x.lived(0), 6);
        C.none(x, "lived(4) ahead of any", x.lived(4), 1);
        C.no(x, "mean(0, 1) without a season", x.mean(0, 1), 6);
        C.no(x, "mean(0, 0)", x.mean(0, 0), 1);
        Check.season(x, "dry;");
        C.none(x, "live(10000)", x.live(10000), 1);
        C.none(x, "live(-1)", x.live(-1), 1);
        C.due("told(1) stays", x.told(1), 0);
        C.no(x, "mean(-1, 1)", x.mean(-1, 1), 1);
        C.no(x, "mean(10000, 1)", x.mean(10000, 1), 1);
        C.no(x, "mean(0, 0)", x.mean(0, 0), 1);
        C.no(x, "mean(0, 21)", x.mean(0, 21), 1);
        C.no(x, "mean(9981, 20)", x.mean(9981, 20), 1);
        C.fraction(x, "mean(9980, 20)", x.mean(9980, 20), 0, 1);
        C.no(x, "mean(big, big)", x.mean(Integer.MAX_VALUE, Integer.MAX_VALUE), 1);
        life(x, 9999, 1);
        C.none(x, "lived(-1)", x.lived(-1), 1);
        C.none(x, "lived(4)", x.lived(4), 1);
    }

    private static void days() {
        KneeBench x = with(A + "weather d;", "rain 7;rain 11;rain 16;rain 0;hail;dry;");
        life(x, 0, 6, 0, 6, 3, 0);
        same("weather", weather(x), "drdrdhd");
        same("felt", felt(x, 0), "0000000");
        x = with(A, "rain 6;rain 12;rain 8;rain 4;");
        life(x, 0, 4, 0, 4, 2, 0);
        same("weather", weather(x), "drdr");
        life(x, 0, 4, 0, 4, 2, 0);
        same("weather, what it comes to stays", weather(x), "drdrdrdr");
        // A day that is missed is drawn all the same: 6, 11 are gone, 8 is not less than 8.
        x = with("farmer a ahead 0 fails 0 false 8;weather " + "d".repeat(60) + ";", "rain 16;rain 16;hail;dry;feel;");
        life(x, 0, 5, 4, 0, 0, 0);
        same("felt by the third draw on", felt(x, 0).substring(0, 4), "0111");
    }

    private static void feel() {
        KneeBench x = with("farmer a ahead 0 fails 8 false 0;weather rrr;", "feel;feel;");
        life(x, 0, 2, 0, 0, 0, 0);
        // 6, 11, 8, then 3, 5, 7.
        same("felt at the second time", felt(x, 0), "000");
        x = with("farmer a ahead 0 fails 8 false 0;weather rrr;", "rain 0;feel;");
        life(x, 0, 2, 0, 1, 0, 0);
        same("felt", felt(x, 0), "1100");
    }

    private static void hands() {
        KneeBench x = with(A + B + "weather rdr;", "lie a on 0;lie b on 1;lie a on 3;lie a on 59;cure b on 2;"
                + "brandy a 16;brandy b 3;learn 1;learn 3;");
        life(x, 0, 9, 3, 0, 0, 0);
        same("felt by a", felt(x, 0), "001");
        same("felt by b", felt(x, 1), "111");
        C.due("cured", x.farmer(1, 4), 2);
        C.none(x, "a is not cured", x.farmer(0, 4), 6);
        C.due("false", x.farmer(0, 2), 16);
        C.due("false", x.farmer(1, 2), 3);
        C.due("weight", x.farmer(0, 5), 64);
        C.due("weight", x.farmer(1, 5), 32);
        x = with(A + "weather d;", "lie a on 0;learn 0;learn 0;dry;lie a on 1;learn 1;");
        life(x, 0, 6, 0, 1, 0, 0);
        C.due("weight", x.farmer(0, 5), 8);
    }

    private static void whens() {
        String bench = A + B + "weather rd;vote any;";
        int[] taken = {2, 1, 1};
        for (int day = 0; day < 3; day++) {
            KneeBench x = with(bench, "when says " + day + ";dry;end;");
            life(x, 0, taken[day], 0, taken[day] - 1);
        }
        String[] held = {"days<3", "days>1", "days=2", "trust b>63", "trust b=64", "trust a<64", "trust a=32",
            "trust a>0", "days > 0"};
        String[] not = {"days<2", "days>2", "days=1", "trust b<64", "trust b>64", "trust a=64", "trust a<32", "days=60"};
        for (String test : held) {
            hailWhen(bench, test, 3, "rdhd");
        }
        for (String test : not) {
            hailWhen(bench, test, 2, "rdd");
        }
        KneeBench x = with(A, "when days=0;when days=1;dry;end;hail;end;rain 16;");
        life(x, 0, 4, 0, 2, 2, 0);
        same("weather", weather(x), "hr");
    }

    private static void hailWhen(String bench, String test, int steps, String weather) {
        KneeBench x = with(bench, "when " + test + ";hail;end;dry;");
        x.weigh(0, 32);
        C.due("live(0) with " + test, x.live(0), steps);
        same("weather by " + test, weather(x), weather);
    }

    private static void loops() {
        KneeBench x = with(A, "loop 3;dry;loop 2;hail;end;end;rain 0;");
        life(x, 0, 1 + 3 * (1 + 1 + 2) + 1, 0, 10, 6, 0);
        same("weather", weather(x), "dhhdhhdhhd");
        x = with(A, "loop 1;dry;end;");
        life(x, 0, 2, 0, 1, 0, 0);
        x = with(A, "loop 99;end;dry;");
        life(x, 0, 2, 0, 1, 0, 0);
        x = with(A, "loop 99;loop 99;loop 99;end;end;end;");
        life(x, 0, 200, 0, 0, 0, 1);
        x = with(A, "loop 3;when days=1;hail;end;dry;end;");
        life(x, 0, 1 + 2 + 3 + 2, 0, 4, 1, 0);
        same("weather", weather(x), "dhdd");
        x = with(A, "loop 4;loop 2;dry;end;when days>5;stop;end;end;hail;");
        life(x, 0, 1 + 3 * 4 + 1, 0, 6, 0, 0);
    }

    private static void limit() {
        KneeBench x = with(A, "loop 99;feel;feel;end;dry;");
        life(x, 0, 200, 0, 1, 0, 0);
        x = with(A, "loop 99;feel;feel;end;dry;dry;");
        life(x, 0, 200, 0, 1, 0, 1);
        C.due("told(1)", x.told(1), 1);
        x = with(A, "loop 99;feel;feel;end;dry;stop;");
        life(x, 0, 200, 0, 1, 0, 1);
        x = with(A, "loop 99;feel;feel;end;stop;dry;");
        life(x, 0, 200, 0, 0, 0, 0);
        x = with(A, "loop 99;feel;feel;end;loop 9;end;");
        life(x, 0, 200, 0, 0, 0, 0);
        x = with(A, "loop 99;feel;feel;end;when days>1;dry;end;");
        life(x, 0, 200, 0, 0, 0, 0);
        x = with(A, "loop 99;feel;feel;end;when days<1;dry;end;");
        life(x, 0, 200, 0, 0, 0, 1);
        x = with(A, "loop 99;dry;loop 1;end;feel;end;");
        life(x, 0, 200, 7, 60, 0, 1);
    }

    private static void stop() {
        KneeBench x = with(A, "dry;stop;hail;");
        life(x, 0, 2, 0, 1, 0, 0);
        x = with(A, "stop;");
        life(x, 0, 1, 0, 0, 0, 0);
        x = with(A, "");
        life(x, 0, 0, 0, 0, 0, 0);
    }

    private static void lived() {
        KneeBench x = with(A + "weather d;", "hail;lie a on 5;");
        life(x, 0, 2, 1, 1, 1, 0);
        x.live(-1);
        x.mean(0, 20);
        x.mark();
        x.back();
        Check.bench(x, "");
        x.live(0);
        C.due("lived(0), whatever came behind it", x.lived(0), 1);
        C.due("lived(2), whatever came behind it", x.lived(2), 1);
        Check.season(x, "dry;");
        life(x, 0, 1, 0, 1, 0, 0);
    }

    private static void mean() {
        KneeBench x = with("farmer a ahead 0 fails 8 false 0;weather r;", "feel;");
        // The first draw: by 0: 6, by 1: 13916 / 8 by 16 = 11, by 2: 16773 / 8 by 16 = 0.
        C.fraction(x, "mean(0, 1)", x.mean(0, 1), 0, 1);
        C.fraction(x, "mean(1, 1)", x.mean(1, 1), 1, 1);
        C.fraction(x, "mean(2, 1)", x.mean(2, 1), 0, 1);
        C.fraction(x, "mean(0, 2)", x.mean(0, 2), 1, 2);
        C.fraction(x, "mean(0, 3)", x.mean(0, 3), 1, 3);
        same("all stays as it is", felt(x, 0), "1");
        C.none(x, "mean() is no live()", x.lived(0), 6);
        x = with(A + "weather r;", "dry;learn 0;lie a on 0;cure a on 1;brandy a 3;");
        C.fraction(x, "mean(0, 20)", x.mean(0, 20), 0, 1);
        C.due("told(1) stays", x.told(1), 1);
        C.due("false stays", x.farmer(0, 2), 0);
        C.none(x, "never cured", x.farmer(0, 4), 6);
        x = with(A + "weather r;", "dry;");
        C.fraction(x, "mean(0, 20), each from how all is now", x.mean(0, 20), 2, 1);
    }
}
