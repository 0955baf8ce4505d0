/** Promises 9 to 16: the tape, benches and seasons as texts, their faults, what a bench tells. */
public final class TextsTest {
    private static final Check C = new Check("TextsTest");
    private static final String KNEE = " ahead 0 fails 0 false 0;";
    private static final String A = "farmer a" + KNEE;

    public static void main(String[] args) {
        feed();
        bench();
        names();
        benchFaults();
        season();
        seasonFaults();
        everyToken();
        fault();
        told();
        farmer();
        dislikes();
        weather();
        C.finish();
    }

    private static String repeat(String s, int n) {
        return s.repeat(n);
    }

    private static void feed() {
        KneeBench x = new KneeBench();
        for (int i = 1; i <= 45; i++) {
            C.due("feed " + i, x.feed(0x20202020, 0x0a0a0a0a, 0x20202020, 0x20202020, 0x20202020), 20 * i);
        }
        C.due("feed 46", x.feed(0, 0, 0, 0, 0), -1);
        C.due("bench of 900 blanks", x.bench(900), 0);
        C.due("feed of a tape that is empty then", x.feed(0, 0, 0, 0, 0), 20);
        KneeBench y = new KneeBench();
        y.feed(0x766f7465, 0x20616e79, 0x3b000000, 0, 0);
        C.due("the highest byte stands first", y.bench(9), 0);
        C.due("vote any", y.told(4), 2);
    }

    private static void bench() {
        KneeBench x = new KneeBench();
        C.none(x, "bench(-1)", x.bench(-1), 1);
        C.none(x, "bench(1) of an empty tape", x.bench(1), 1);
        C.due("bench(0)", x.bench(0), 0);
        C.due("status()", x.status(), 0);
        Check.feed(x, "vote all;");
        C.none(x, "bench(21) of 20 bytes", x.bench(21), 1);
        C.due("the tape stays", x.feed(0, 0, 0, 0, 0), 40);
        C.due("bench(9)", x.bench(9), 0);
        C.due("vote", x.told(4), 3);
        C.due("the tape is empty then", x.feed(0, 0, 0, 0, 0), 20);
        C.none(x, "bench(1) of a byte 0", x.bench(1), 9);
        C.due("the tape is empty with a fault, too", x.feed(0, 0, 0, 0, 0), 20);
        C.due("the old one stays", x.told(4), 3);

        x = Check.with(A + "weather rr;vote all;");
        x.weigh(0, 3);
        x.lie(0, 0);
        Check.season(x, "dry;");
        C.none(x, "a faulty bench", Check.bench(x, A + A), 9);
        C.due("its weight stays", x.farmer(0, 5), 3);
        C.due("its lie stays", x.twinges(0, 0), 0);
        C.due("its season stays", x.live(0), 1);
        C.due("another bench", Check.bench(x, "farmer b behind 1 fails 1 false 2;weather rd;"), 1);
        C.due("all weights are 64", x.farmer(0, 5), 64);
        C.due("it twinges where it should", x.twinges(0, 1), 1);
        C.due("and nowhere else", x.farmer(0, 6), 1);
        C.due("vote without one", x.told(4), 0);
        C.due("days", x.told(1), 2);
        C.none(x, "its season is gone", x.live(0), 6);
        C.due("weather told behind the farmer", Check.with("weather r;" + A + "weather r;").farmer(0, 6), 2);
        C.due("no blanks", Check.bench(x, "weather d;farmer a\nahead1fails2false3elbow cured4;"), 1);
        C.due("leading noughts", Check.bench(x, "farmer a ahead 0003 fails 0016 false 016;"), 1);
        C.due("fails", x.farmer(0, 1), 16);
        StringBuilder many = new StringBuilder();
        for (char c = 'a'; c < 'i'; c++) {
            many.append("farmer ").append(c).append(KNEE);
        }
        C.due("eight farmers", Check.bench(x, many.toString()), 8);
        C.due("60 days", Check.bench(x, "weather " + repeat("d", 59) + ";weather h;"), 0);
        C.due("days", x.told(1), 60);
    }

    private static void names() {
        String[] reserved = {"farmer", "ahead", "behind", "fails", "false", "elbow", "cured", "dislikes", "weather",
            "vote", "most", "weights", "any", "all", "rain", "dry", "hail", "feel", "lie", "on", "cure", "brandy",
            "learn", "when", "says", "trust", "days", "loop", "end", "stop"};
        for (String word : reserved) {
            C.benchFault("farmer " + word + KNEE, 2, 7);
            C.due("a name but for one letter", Check.bench(new KneeBench(), "farmer " + word.charAt(0) + "q" + KNEE), 1);
        }
        KneeBench x = new KneeBench();
        C.due("a name of 8 letters", Check.bench(x, "farmer zzzzzzzz" + KNEE + "farmer zzzzzzz" + KNEE), 2);
        C.benchFault("farmer zzzzzzzzz" + KNEE, 2, 7);
        C.benchFault(A + "dislikes zzzzzzzzz a 1;", 2, A.length() + 9);
        C.due("names that are like the fifth letter on", Check.bench(x, "farmer az" + KNEE + "farmer ba" + KNEE), 2);
    }

    private static void benchFaults() {
        C.benchFault("A", 1, 0);
        C.benchFault("\t", 1, 0);
        C.benchFault("  \n{", 1, 3);
        C.benchFault("`", 1, 0);
        C.benchFault((char) 200 + "", 1, 0);
        C.benchFault("vote any:", 1, 8);
        C.benchFault("12345", 1, 0);
        C.benchFault("1234", 2, 0);
        C.benchFault("farmer 123456 ahead", 1, 7);
        C.benchFault("x", 2, 0);
        C.benchFault(";", 2, 0);
        C.benchFault("end;", 2, 0);
        C.benchFault("farmer", 2, 6);
        C.benchFault("farmer  \n ", 2, 10);
        C.benchFault("farmer 1", 2, 7);
        C.benchFault("farmer a 1", 2, 9);
        C.benchFault("farmer a ahead fails", 2, 15);
        C.benchFault("farmer a ahead 4", 4, 15);
        C.benchFault("farmer a ahead 9999", 4, 15);
        C.benchFault("farmer a behind 0", 4, 16);
        C.benchFault("farmer a behind 4", 4, 16);
        C.benchFault("farmer a ahead 1 false 1", 2, 17);
        C.benchFault("farmer a ahead 1 fails 17", 4, 23);
        C.benchFault("farmer a ahead 1 fails 1 false 17", 4, 31);
        C.benchFault("farmer a ahead 1 fails 1 false 1 cured 61", 4, 39);
        C.benchFault("farmer a ahead 1 fails 1 false 1 elbow elbow", 2, 39);
        C.benchFault("farmer a ahead 1 fails 1 false 1 cured 1 elbow", 2, 41);
        C.benchFault("farmer a ahead 1 fails 1 false 1 <", 2, 33);
        C.benchFault("farmer a ahead 1 fails 1 false 1", 2, 32);
        C.benchFault(A + "farmer a", 3, A.length() + 7);
        C.benchFault(A.replace(";", "") + " farmer b", 2, A.length());
        C.benchFault(A + "dislikes b", 3, A.length() + 9);
        C.benchFault(A + "dislikes a b 1;farmer b" + KNEE, 3, A.length() + 11);
        C.benchFault(A + "dislikes a a", 5, A.length() + 11);
        C.benchFault(A + "farmer b" + KNEE + "dislikes a b 100", 4, 2 * A.length() + 13);
        C.benchFault(A + "farmer b" + KNEE + "dislikes a b;", 2, 2 * A.length() + 12);
        C.benchFault("weather", 2, 7);
        C.benchFault("weather dx;", 2, 8);
        C.benchFault("weather D;", 1, 8);
        C.benchFault("weather " + repeat("d", 61) + ";", 2, 8);
        C.benchFault("weather " + repeat("d", 60) + ";weather d;", 6, 77);
        C.benchFault("weather " + repeat("d", 30) + ";weather " + repeat("d", 31) + ";", 6, 47);
        C.benchFault("weather " + repeat("d", 60) + ";weather x;", 2, 77);
        C.benchFault("vote;", 2, 4);
        C.benchFault("vote rain;", 2, 5);
        C.benchFault("vote all;vote all;", 5, 9);
        C.benchFault("vote all", 2, 8);
        StringBuilder many = new StringBuilder();
        for (char c = 'a'; c < 'i'; c++) {
            many.append("farmer ").append(c).append(KNEE);
        }
        C.benchFault(many + "farmer a", 6, many.length());
        C.benchFault(many + " x", 2, many.length() + 1);
    }

    private static void season() {
        KneeBench x = Check.with(A + "farmer b" + KNEE);
        C.none(x, "season(-1)", x.season(-1), 1);
        C.none(x, "season(1) of an empty tape", x.season(1), 1);
        C.due("season(0)", x.season(0), 0);
        C.due("status()", x.status(), 0);
        C.due("an empty season is one", x.live(0), 0);
        C.due("status()", x.status(), 0);
        String all = "rain 16;hail;dry;feel;lie a on 59;cure b on 60;brandy a 16;learn 59;when says 62;end;"
                + "when trust a<64;end;when days=60;end;when days>0;loop 99;end;end;stop;";
        C.due("one of each", Check.season(x, all), 14);
        C.due("status()", x.status(), 0);
        C.due("300 bytes", Check.season(x, "dry;" + repeat(" ", 296)), 1);
        Check.feed(x, repeat(" ", 320));
        C.none(x, "season(301)", x.season(301), 1);
        C.due("the tape stays", x.feed(0, 0, 0, 0, 0), 340);
        C.due("season(300)", x.season(300), 0);
        C.due("30 steps", Check.season(x, repeat("dry;", 26) + "loop 2;when days<9;end;end;feel;stop;"), 30);
        C.due("three deep", Check.season(x, "loop 1;loop 1;loop 1;dry;end;end;loop 1;end;end;"), 5);
        C.none(x, "a faulty season", Check.season(x, "dry"), 9);
        C.due("the old one stays", x.live(0), 5);
        C.due("the tape is empty then", x.feed(0, 0, 0, 0, 0), 20);
    }

    private static void seasonFaults() {
        KneeBench x = Check.with(A);
        C.seasonFault(x, "!", 1, 0);
        C.seasonFault(x, "rain 12345;", 1, 5);
        C.seasonFault(x, "farmer", 2, 0);
        C.seasonFault(x, "on", 2, 0);
        C.seasonFault(x, "says 1;", 2, 0);
        C.seasonFault(x, "trust a<1;", 2, 0);
        C.seasonFault(x, "days<1;", 2, 0);
        C.seasonFault(x, "end;", 2, 0);
        C.seasonFault(x, "dry;end;", 2, 4);
        C.seasonFault(x, "loop 1;end;end;", 2, 11);
        C.seasonFault(x, "loop 1;", 2, 7);
        C.seasonFault(x, "loop 1;dry; ", 2, 12);
        C.seasonFault(x, "loop 1;end", 2, 10);
        C.seasonFault(x, "dry", 2, 3);
        C.seasonFault(x, "dry 1;", 2, 4);
        C.seasonFault(x, "rain;", 2, 4);
        C.seasonFault(x, "rain 17;", 4, 5);
        C.seasonFault(x, "lie b on 1;", 3, 4);
        C.seasonFault(x, "lie stop on 1;", 2, 4);
        C.seasonFault(x, "lie aaaaaaaaa on 1;", 2, 4);
        C.seasonFault(x, "lie a 1;", 2, 6);
        C.seasonFault(x, "lie a on 60;", 4, 9);
        C.seasonFault(x, "cure a on 61;", 4, 10);
        C.seasonFault(x, "brandy a on 1;", 2, 9);
        C.seasonFault(x, "brandy a 17;", 4, 9);
        C.seasonFault(x, "brandy c 17;", 3, 7);
        C.seasonFault(x, "learn 60;", 4, 6);
        C.seasonFault(x, "loop 0;", 4, 5);
        C.seasonFault(x, "loop 100;", 4, 5);
        C.seasonFault(x, "when;", 2, 4);
        C.seasonFault(x, "when rain;", 2, 5);
        C.seasonFault(x, "when says a;", 2, 10);
        C.seasonFault(x, "when says 63;", 4, 10);
        C.seasonFault(x, "when trust b<1;", 3, 11);
        C.seasonFault(x, "when trust a 1;", 2, 13);
        C.seasonFault(x, "when trust a;1;", 2, 12);
        C.seasonFault(x, "when trust a<65;", 4, 13);
        C.seasonFault(x, "when days 1;", 2, 10);
        C.seasonFault(x, "when days<61;", 4, 10);
        C.seasonFault(x, "when days<<1;", 2, 10);
        C.seasonFault(x, repeat("dry;", 30) + "dry;", 6, 120);
        C.seasonFault(x, repeat("dry;", 30) + "drr;", 2, 120);
        C.seasonFault(x, repeat("dry;", 30) + "end;", 2, 120);
        C.seasonFault(x, repeat("loop 1;", 3) + "loop 1;", 7, 21);
        C.seasonFault(x, repeat("loop 1;", 3) + "when x", 7, 21);
        C.seasonFault(x, repeat("dry;", 27) + repeat("loop 1;", 3) + "loop 1;", 6, 129);
        C.seasonFault(x, repeat("loop 1;end;", 3) + repeat("loop 1;", 4), 7, 54);
    }

    /** Wherever a token stands: no token begins so, a number too long, a sign that can't stand there, the end. */
    private static void everyToken() {
        String[] bench = (A + "farmer b behind 2 fails 3 false 4 elbow cured 5 ; dislikes a b 6 ; weather drh ; "
                + "weather h ; vote weights ;").replace(";", " ; ").trim().split(" +");
        String[] season = ("rain 3 ; hail ; dry ; feel ; lie a on 4 ; cure a on 5 ; brandy a 6 ; learn 7 ; when says 8 ; "
                + "end ; when trust a < 9 ; loop 2 ; end ; end ; when days = 1 ; stop ; end ;").split(" ");
        C.due("the bench itself", Check.bench(new KneeBench(), String.join(" ", bench)), 2);
        C.due("the season itself", Check.season(Check.with(A), String.join(" ", season)), 13);
        for (int i = 0; i < bench.length; i++) {
            int place = placeOf(bench, i);
            C.benchFault(replaced(bench, i, "!"), 1, place);
            C.benchFault(replaced(bench, i, "00001"), 1, place);
            C.benchFault(replaced(bench, i, ">"), 2, place);
            if (i > 0 && !bench[i - 1].equals(";")) {
                C.benchFault(String.join(" ", bench).substring(0, place), 2, place);
            }
        }
        KneeBench x = Check.with(A);
        for (int i = 0; i < season.length; i++) {
            int place = placeOf(season, i);
            C.seasonFault(x, replaced(season, i, "!"), 1, place);
            C.seasonFault(x, replaced(season, i, "00001"), 1, place);
            C.seasonFault(x, replaced(season, i, season[i].equals(";") ? "<" : ";"), 2, place);
            if (i > 0 && !season[i - 1].equals(";")) {
                C.seasonFault(x, String.join(" ", season).substring(0, place), 2, place);
            }
        }
    }

    private static String replaced(String[] tokens, int at, String token) {
        String[] other = tokens.clone();
        other[at] = token;
        return String.join(" ", other);
    }

    private static int placeOf(String[] tokens, int at) {
        int place = 0;
        for (int i = 0; i < at; i++) {
            place += tokens[i].length() + 1;
        }
        return place;
    }

    private static void fault() {
        KneeBench x = new KneeBench();
        Check.bench(x, "vote all");
        C.due("fault(0)", x.fault(0), 2);
        C.due("fault(1)", x.fault(1), 8);
        C.due("fault(2)", x.fault(2), -1);
        C.due("fault(-1)", x.fault(-1), -1);
        x.bench(1);
        x.season(-1);
        C.due("fault(0) behind STATUS 1", x.fault(0), 2);
        C.due("fault(1) behind STATUS 1", x.fault(1), 8);
        x.season(0);
        C.due("fault(0) without one", x.fault(0), 0);
        C.due("fault(1) without one", x.fault(1), -1);
        Check.season(x, "dry;loop 0;");
        C.due("fault(0) of a season", x.fault(0), 4);
        C.due("fault(1) of a season", x.fault(1), 9);
        x.told(0);
        C.due("fault(0) stays", x.fault(0), 4);
    }

    private static void told() {
        KneeBench x = Check.with(A + "farmer b" + KNEE + "weather rrdhh;vote weights;");
        int[] want = {2, 5, 4, 2, 1};
        for (int what = 0; what < 5; what++) {
            C.due("told(" + what + ")", x.told(what), want[what]);
            C.due("status()", x.status(), 0);
        }
        C.none(x, "told(-1)", x.told(-1), 1);
        C.none(x, "told(5)", x.told(5), 1);
        x.day(2);
        C.due("told(1) with a new day", x.told(1), 6);
        C.due("told(3) with a new day", x.told(3), 3);
    }

    private static void farmer() {
        KneeBench x = Check.with("farmer a behind 1 fails 3 false 4;farmer b ahead 3 fails 16 false 0 elbow cured 0;"
                + "weather rdhr;");
        int[][] want = {{-1, 3, 4, 0, -1, 64, 2}, {3, 16, 0, 1, 0, 64, 0}};
        for (int f = 0; f < 2; f++) {
            for (int what = 0; what < 7; what++) {
                C.due("farmer(" + f + ", " + what + ")", x.farmer(f, what), want[f][what]);
                C.due("status()", x.status(), f == 0 && what == 4 ? 6 : 0);
            }
        }
        C.none(x, "farmer(2, 0)", x.farmer(2, 0), 1);
        C.none(x, "farmer(-1, 0)", x.farmer(-1, 0), 1);
        C.none(x, "farmer(0, 7)", x.farmer(0, 7), 1);
        C.none(x, "farmer(0, -1)", x.farmer(0, -1), 1);
    }

    private static void dislikes() {
        KneeBench x = Check.with(A + "farmer b" + KNEE + "farmer c" + KNEE
                + "dislikes a b 5;dislikes c b 99;dislikes b a 7;");
        C.due("dislikes(0, 1), the latest", x.dislikes(0, 1), 7);
        C.due("dislikes(1, 0)", x.dislikes(1, 0), 7);
        C.due("dislikes(1, 2)", x.dislikes(1, 2), 99);
        C.due("dislikes(0, 2)", x.dislikes(0, 2), 0);
        C.due("dislikes(1, 1)", x.dislikes(1, 1), 0);
        C.due("status()", x.status(), 0);
        C.none(x, "dislikes(0, 3)", x.dislikes(0, 3), 1);
        C.none(x, "dislikes(-1, 0)", x.dislikes(-1, 0), 1);
        Check.bench(x, A + "farmer b" + KNEE);
        C.due("dislikes of another bench", x.dislikes(0, 1), 0);
    }

    private static void weather() {
        KneeBench x = Check.with("weather dr;weather h;");
        for (int d = 0; d < 3; d++) {
            C.due("weather(" + d + ")", x.weather(d), d);
            C.due("status()", x.status(), 0);
        }
        C.none(x, "weather(3)", x.weather(3), 1);
        C.none(x, "weather(-1)", x.weather(-1), 1);
    }
}
