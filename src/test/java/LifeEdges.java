/**
 * What the document says of edges: promises 66 to 70, seasons that are lived, their mean, marks. The seed 0 draws by 16:
 * 6, 11, 8, 3, 5, 7, 15, 7.
 */
final class LifeEdges {
    private static final int NONE = KneeBench.NONE;
    private static final int MOST = Integer.MAX_VALUE;
    private static final int LEAST = Integer.MIN_VALUE;
    private static final String ONE = Run.knees(1);

    private LifeEdges() {
    }

    private static Run with(String bench, String season) {
        return Run.with(bench).season(season);
    }

    /** Lived by the seed 0: how many STEPS, MISSED ones, new DAYS, WET ones of these, if one was left. */
    private static void life(Run r, int steps, int... lived) {
        r.due(steps, "live", 0);
        for (int what = 0; what < 4; what++) {
            r.due(lived[what], "lived", what);
        }
    }

    private static void life(String bench, String season, int steps, int... lived) {
        life(with(bench, season), steps, lived);
    }

    static void promise66Ranges() {
        Run.some().range(1, "live", 0, 0, 9999, 0);
        Run.full().range(1, "live", 0, 0, 9999, 0);
        with("", "").range(1, "live", 0, 0, 9999, 0);
    }

    static void promise66NoSeason() {
        Run r = new Run();
        r.no(6, "live", 0);
        r.no(6, "live", 9999);
        r.no(1, "live", -1);
        r.no(1, "live", 10000);
        Run.with(ONE).no(6, "live", 0);
        with(ONE, "dry;").then("bench", 0).no(6, "live", 0);
        Run taken = Run.with(ONE).then("mark").season("dry;").then("back");
        taken.no(6, "live", 0);
        taken = with(ONE, "dry;").then("mark").then("bench", 0);
        taken.no(6, "live", 0);
        taken.then("back").due(1, "live", 0);
    }

    static void promise66ADrawThatIsLessThanN() {
        for (int n = 0; n <= 16; n++) {
            Run r = with("", "rain " + n + ";rain " + n + ";rain " + n + ";");
            int wet = (6 < n ? 1 : 0) + (11 < n ? 1 : 0) + (8 < n ? 1 : 0);
            life(r, 3, 0, 3, wet, 0);
            r.weather((6 < n ? "r" : "d") + (11 < n ? "r" : "d") + (8 < n ? "r" : "d"));
        }
        Run last = with("", "rain 3;");
        last.due(1, "live", 9999);
        last.weather("d");
        last = with("", "rain 4;");
        last.due(1, "live", 9999);
        last.weather("r");
        last.due(1, "live", 1);
        last.weather("rd");
    }

    static void promise66TheDrawsGoOnFromStepToStep() {
        // 6 for the rain, 11, 8, 3 for what is felt, then 5, 7 and the seventh draw.
        Run r = with("farmer a ahead 0 fails 8 false 9;weather dd;", "rain 16;feel;rain 6;rain 7;rain 16;rain 7;");
        life(r, 6, 0, 5, 3, 0);
        r.felt(0, "0100000");
        r.weather("ddrrdrd");
    }

    static void promise66DrawnAlsoWhereItIsMissed() {
        String bench = "farmer a ahead 0 fails 0 false 9;weather " + "d".repeat(60) + ";";
        Run r = with(bench, "rain 0;feel;");
        life(r, 2, 1, 0, 0, 0);
        r.row(0, "twinges", new long[] {0}, 0, 1, 1, 1, 1);
        r = with(bench, "hail;dry;feel;");
        life(r, 3, 2, 0, 0, 0);
        r.row(0, "twinges", new long[] {0}, 1, 0, 1, 1, 1, 1);
    }

    static void promise66A61stDayIsMissed() {
        String days59 = "weather " + "d".repeat(59) + ";";
        for (String step : new String[] {"rain 16;", "hail;", "dry;"}) {
            int wet = step.equals("dry;") ? 0 : 1;
            life(days59, step, 1, 0, 1, wet, 0);
            life(days59, step + step, 2, 1, 1, wet, 0);
            life(days59 + "weather d;", step, 1, 1, 0, 0, 0);
        }
        Run r = with("", "loop 61;hail;end;");
        life(r, 62, 1, 60, 60, 0);
        r.due(60, "told", 3);
    }

    static void promise66ALieOrLearnOfADayThatIsNotThere() {
        String bench = ONE + "weather rd;";
        life(bench, "lie a on 1;", 1, 0, 0, 0, 0);
        life(bench, "lie a on 2;", 1, 1, 0, 0, 0);
        life(bench, "lie a on 59;", 1, 1, 0, 0, 0);
        life(bench, "learn 1;", 1, 0, 0, 0, 0);
        life(bench, "learn 2;", 1, 1, 0, 0, 0);
        life(bench, "learn 59;", 1, 1, 0, 0, 0);
        life(ONE, "lie a on 0;learn 0;", 2, 2, 0, 0, 0);
        life(ONE, "dry;lie a on 0;learn 0;", 3, 0, 1, 0, 0);
        life(ONE + "weather " + "d".repeat(60) + ";", "lie a on 59;learn 59;", 2, 0, 0, 0, 0);
        life(ONE + "weather " + "d".repeat(59) + ";", "lie a on 59;learn 59;", 2, 2, 0, 0, 0);
        Run r = with(bench, "lie a on 2;learn 2;lie a on 0;");
        life(r, 3, 2, 0, 0, 0);
        r.felt(0, "00");
        r.due(64, "farmer", 0, 5);
    }

    static void promise66CureAndBrandyAreNeverMissed() {
        Run r = with(Run.knees(2), "cure a on 60;cure b on 0;brandy a 16;brandy b 0;");
        life(r, 4, 0, 0, 0, 0);
        r.due(60, "farmer", 0, 4);
        r.due(0, "farmer", 1, 4);
        r.due(16, "farmer", 0, 2);
        r.due(0, "farmer", 1, 2);
    }

    static void promise66WhenSays() {
        String bench = Run.knees(2) + "weather rd;";
        life(bench, "when says 0;hail;end;", 2, 0, 1, 1, 0);
        life(bench, "when says 1;hail;end;", 1, 0, 0, 0, 0);
        life(bench, "when says 2;hail;end;", 1, 0, 0, 0, 0);
        life(bench, "when says 62;hail;end;", 1, 0, 0, 0, 0);
        Run late = with("farmer a ahead 3 fails 0 false 0;weather " + "d".repeat(60) + ";", "when says 62;feel;end;");
        life(late.copy(), 1, 0, 0, 0, 0);
        life(late.then("twinge", 0, 59, 1), 2, 0, 0, 0, 0);
    }

    private static void test(int weight, int days, String test, boolean holds) {
        String bench = ONE + (days == 0 ? "" : "weather " + "d".repeat(days) + ";");
        Run r = with(bench, "when " + test + ";feel;end;").then("weigh", 0, weight);
        life(r, holds ? 2 : 1, 0, 0, 0, 0);
    }

    static void promise66WhenTrust() {
        for (int weight : new int[] {1, 2, 31, 63, 64}) {
            for (int n : new int[] {0, 1, 2, 3, 30, 31, 32, 62, 63, 64}) {
                test(weight, 0, "trust a<" + n, weight < n);
                test(weight, 0, "trust a>" + n, weight > n);
                test(weight, 0, "trust a=" + n, weight == n);
            }
        }
    }

    static void promise66WhenDays() {
        for (int days : new int[] {0, 1, 2, 30, 59, 60}) {
            for (int n : new int[] {0, 1, 2, 29, 30, 31, 58, 59, 60}) {
                test(1, days, "days<" + n, days < n);
                test(1, days, "days>" + n, days > n);
                test(1, days, "days=" + n, days == n);
            }
        }
    }

    static void promise66LoopsAsOften() {
        life("", "loop 1;dry;end;", 2, 0, 1, 0, 0);
        life("", "loop 2;dry;end;", 3, 0, 2, 0, 0);
        life("", "loop 60;dry;end;", 61, 0, 60, 0, 0);
        life(ONE, "loop 98;feel;end;", 99, 0, 0, 0, 0);
        life(ONE, "loop 99;feel;end;", 100, 0, 0, 0, 0);
        life("", "loop 99;end;", 1, 0, 0, 0, 0);
        life("", "loop 99;end;dry;", 2, 0, 1, 0, 0);
        life("", "loop 2;loop 3;dry;end;hail;end;", 1 + 2 * 5, 0, 8, 2, 0);
        life("", "loop 2;loop 2;loop 2;dry;end;end;end;", 1 + 2 * (1 + 2 * 3), 0, 8, 0, 0);
        life("", "loop 2;when days<1;dry;end;end;", 4, 0, 1, 0, 0);
        life("", "when days=0;loop 2;when days>0;hail;end;dry;end;end;", 1 + 1 + 2 + 3, 0, 3, 1, 0);
    }

    static void promise66TwoHundredStepsAndNoMore() {
        life(ONE, "loop 99;feel;feel;end;", 199, 0, 0, 0, 0);
        life(ONE, "loop 99;feel;feel;end;feel;", 200, 0, 0, 0, 0);
        life(ONE, "loop 99;feel;feel;end;feel;feel;", 200, 0, 0, 0, 1);
        Run r = with(ONE, "loop 99;feel;feel;end;dry;dry;");
        life(r, 200, 0, 1, 0, 1);
        r.due(1, "told", 1);
        life(r, 200, 0, 1, 0, 1);
        r.due(2, "told", 1);
        life(ONE, "loop 99;feel;feel;feel;end;dry;", 200, 0, 0, 0, 1);
        life("", "loop 99;loop 99;dry;end;end;", 200, 137, 60, 0, 1);
    }

    static void promise66WhenAndLoopCountEachTimeEndDoesNot() {
        // 1, then 66 times 3: 199; the next one is the loop's end, and there is none behind.
        life("", "loop 66;when days>60;end;loop 9;end;loop 9;end;end;", 199, 0, 0, 0, 0);
        life("", "loop 66;when days>60;end;loop 9;end;loop 9;end;end;dry;", 200, 0, 1, 0, 0);
        life("", "loop 66;when days>60;end;loop 9;end;loop 9;end;end;dry;hail;", 200, 0, 1, 0, 1);
        life("", "loop 67;when days>60;end;loop 9;end;loop 9;end;end;", 200, 0, 0, 0, 1);
        life("", "loop 99;loop 1;end;loop 1;end;end;when days=1;hail;end;", 200, 0, 0, 0, 0);
        life("", "loop 99;loop 1;end;loop 1;end;end;when days=0;hail;end;", 200, 0, 0, 0, 1);
        life("", "loop 99;loop 1;end;loop 1;end;end;when days=0;end;", 200, 0, 0, 0, 0);
        life("", "loop 99;loop 1;end;loop 1;end;end;loop 99;end;", 200, 0, 0, 0, 0);
        life("", "loop 99;loop 1;end;loop 1;end;end;loop 99;dry;end;", 200, 0, 0, 0, 1);
        life("", "loop 99;loop 99;loop 99;end;end;end;", 200, 0, 0, 0, 1);
    }

    static void promise66And67StopLeavesNothingToBeDone() {
        life("", "stop;", 1, 0, 0, 0, 0);
        life("", "stop;dry;", 1, 0, 0, 0, 0);
        life("", "dry;stop;dry;", 2, 0, 1, 0, 0);
        life("", "loop 9;dry;stop;end;hail;", 3, 0, 1, 0, 0);
        life("", "when days=0;stop;end;dry;", 2, 0, 0, 0, 0);
        life("", "when days>0;stop;end;dry;", 2, 0, 1, 0, 0);
        life("", "loop 9;loop 9;when days=3;stop;end;dry;end;end;hail;", 1 + 1 + 3 * 2 + 2, 0, 3, 0, 0);
        life(ONE, "loop 99;feel;feel;end;stop;dry;", 200, 0, 0, 0, 0);
        life(ONE, "loop 99;feel;feel;end;dry;stop;", 200, 0, 1, 0, 1);
        life(ONE, "loop 98;feel;feel;end;dry;stop;", 199, 0, 1, 0, 0);
    }

    static void promise66WhatItComesToStays() {
        Run r = with(ONE, "hail;lie a on 0;learn 0;cure a on 9;brandy a 4;");
        life(r, 5, 0, 1, 1, 0);
        r.felt(0, "1");
        r.due(64, "farmer", 0, 5);
        r.due(9, "farmer", 0, 4);
        r.due(4, "farmer", 0, 2);
        life(r, 5, 0, 1, 1, 0);
        r.weather("hh");
        r.felt(0, "00");
        r.due(32, "farmer", 0, 5);
    }

    static void promise66OfALearnedDayEachWhoIsWrong() {
        Run r = with(Run.knees(2) + "weather r;", "lie b on 0;loop 7;learn 0;end;");
        life(r, 9, 0, 0, 0, 0);
        r.due(64, "farmer", 0, 5);
        r.due(1, "farmer", 1, 5);
    }

    static void promise67Ranges() {
        Run.some().range(1, "lived", 0, 0, 3, 0);
        Run.full().range(1, "lived", 0, 0, 3, 0);
        Run r = new Run();
        r.row(6, "lived", new long[0], NONE, NONE, NONE, NONE);
        for (int what : new int[] {-1, 4, LEAST, MOST}) {
            r.no(1, "lived", what);
        }
    }

    static void promise67OfLiveLatestWithStatus0WhateverCameBehind() {
        Run r = with(ONE, "hail;rain 0;lie a on 9;");
        r.no(6, "lived", 0);
        r.ask("mean", 0, 1);
        r.no(6, "lived", 3);
        life(r, 3, 1, 2, 1, 0);
        String[][] behind = {{"mean", "0", "5"}, {"live", "-1"}, {"live", "10000"}, {"mark"}, {"back"}, {"bench", "0"},
            {"live", "0"}, {"season", "0"}};
        for (String[] call : behind) {
            long[] args = new long[call.length - 1];
            for (int i = 0; i < args.length; i++) {
                args[i] = Long.parseLong(call[i + 1]);
            }
            r.ask(call[0], args);
            r.row(1, "lived", new long[0], 1, 2, 1, 0, NONE);
        }
        r.due(0, "live", 0);
        r.row(1, "lived", new long[0], 0, 0, 0, 0, NONE);
    }

    static void promise67NewDaysAndWetOnesOfThese() {
        life("weather rrhh;", "dry;rain 16;hail;rain 0;", 4, 0, 4, 2, 0);
        life("weather rrhh;", "feel;", 1, 0, 0, 0, 0);
        life("weather " + "r".repeat(59) + ";", "dry;hail;hail;", 3, 2, 1, 0, 0);
        life("", "loop 99;hail;end;", 100, 39, 60, 60, 0);
    }

    static void promise68Ranges() {
        for (Run r : new Run[] {Run.some(), with("", "")}) {
            r.range(1, "mean", 0, 0, 9999, 0, 1);
            r.range(1, "mean", 0, 0, 9998, 0, 2);
            r.range(1, "mean", 0, 0, 9980, 0, 20);
            r.range(1, "mean", 1, 1, 20, 0, 1);
            r.range(1, "mean", 1, 1, 20, 9980, 1);
            r.range(1, "mean", 1, 1, 19, 9981, 1);
            r.range(1, "mean", 1, 1, 1, 9999, 1);
            r.no(1, "mean", MOST, MOST);
            r.no(1, "mean", MOST, 20);
            r.no(1, "mean", LEAST, LEAST);
            r.no(1, "mean", 9999, MOST);
        }
        Run.full().range(1, "mean", 0, 0, 9980, 0, 20);
    }

    static void promise68NoSeason() {
        Run r = new Run();
        r.no(6, "mean", 0, 1);
        r.no(6, "mean", 9980, 20);
        r.no(1, "mean", 9981, 20);
        r.no(1, "mean", 0, 0);
        r.no(1, "mean", 0, 21);
        r.no(1, "mean", -1, 1);
        Run.with(ONE).no(6, "mean", 0, 1);
    }

    static void promise68TheMeanOfKeptBehindTheSeason() {
        // The first draws: by 0: 6, by 1: 11, by 2: 0, by 3: 5.
        Run r = with("farmer a ahead 0 fails 8 false 0;weather r;", "feel;");
        r.fraction(0, 1, "mean", 0, 1);
        r.fraction(1, 1, "mean", 1, 1);
        r.fraction(1, 2, "mean", 0, 2);
        r.fraction(1, 2, "mean", 1, 2);
        r.fraction(1, 3, "mean", 0, 3);
        r.fraction(0, 1, "mean", 2, 1);
        with("", "").fraction(0, 1, "mean", 9999, 1);
        with(ONE, "loop 60;dry;end;").fraction(60, 1, "mean", 0, 20);
        with(ONE + "weather dd;", "").fraction(2, 1, "mean", 0, 20);
        with(ONE + "weather dd;", "loop 99;feel;feel;end;dry;dry;").fraction(3, 1, "mean", 5, 3);
    }

    static void promise68ByEachSeedAsLiveWould() {
        String bench = "farmer a ahead 0 fails 8 false 5;farmer b ahead 1 fails 3 false 9;weather rdrdrhd;";
        String season = "feel;loop 5;rain 7;end;feel;learn 2;when trust a<64;lie b on 1;end;";
        for (int[] span : new int[][] {{0, 1}, {0, 20}, {9980, 20}, {9999, 1}, {4321, 7}}) {
            long sum = 0;
            for (int seed = span[0]; seed < span[0] + span[1]; seed++) {
                Run one = with(bench, season).then("live", seed);
                sum += one.ask("kept");
            }
            Run r = with(bench, season);
            r.due(1, "mean", span[0], span[1]);
            Run.C.due("the mean from " + span[0] + " on", r.ask("top") * span[1], sum * r.ask("bottom"));
        }
    }

    static void promise68AllStaysAsItIs() {
        for (Run r : new Run[] {Run.some(), Run.full(), with("", "dry;")}) {
            r.leaves("mean", 0, 20);
        }
    }

    // ---- marks

    static void promise69ThreeMarksAndNoFourth() {
        for (Run r : new Run[] {new Run(), Run.with(Run.knees(8) + "weather " + "r".repeat(60) + ";")}) {
            r.due(1, "mark");
            r.due(2, "mark");
            r.due(3, "mark");
            r.no(4, "mark");
            r.due(2, "back");
            r.due(3, "mark");
            r.no(4, "mark");
        }
        Run.full().no(4, "mark");
    }

    static void promise70NoneIsLeft() {
        Run r = new Run();
        r.no(6, "back");
        r.due(1, "mark");
        r.due(0, "back");
        r.no(6, "back");
        for (int i = 1; i <= 3; i++) {
            r.due(i, "mark");
        }
        for (int i = 2; i >= 0; i--) {
            r.due(i, "back");
        }
        r.no(6, "back");
    }

    static void promise70TheLatestMarkFirst() {
        Run r = new Run().then("mark").then("day", 0).then("mark").then("day", 1).then("mark").then("day", 2);
        r.weather("drh");
        r.due(2, "back");
        r.weather("dr");
        r.due(1, "back");
        r.weather("d");
        r.then("day", 2).then("day", 2).due(2, "mark");
        r.then("day", 0);
        r.due(1, "back");
        r.weather("dhh");
        r.due(0, "back");
        r.weather("");
    }

    static void promise70TheBenchWithAllThatBecameOfIt() {
        Run r = with("farmer a behind 1 fails 1 false 2 elbow cured 5;farmer b ahead 2 fails 3 false 4;dislikes a b 6;"
                + "weather rhd;vote all;", "dry;lie b on 0;").then("lie", 1, 1).then("weigh", 0, 7).then("brandy", 1, 8);
        Run marked = r.copy().then("mark");
        for (int f = 0; f < 2; f++) {
            marked.then("cure", f, 0).then("brandy", f, 9).then("weigh", f, 9).then("lie", f, 0).then("lie", f, 2);
        }
        marked.then("day", 2).then("live", 5).then("feel", 6).then("learn", 0);
        marked.season("hail;hail;");
        marked.due(0, "back");
        marked.isLike(r, "told", "farmer", "weather", "twinges", "dislikes");
        marked.due(2, "live", 0);
        marked.weather("rhdd");
    }

    static void promise70AnotherBenchAndItsSeason() {
        String names = "cure a on 1;cure b on 2;";
        Run r = with(Run.knees(2) + "weather rd;dislikes a b 3;", names).then("mark");
        r.taken(1, "bench", "farmer z" + Run.KNEE + "weather hhh;vote any;");
        r.taken(1, "season", "lie z on 0;");
        r.due(0, "back");
        r.row(1, "told", new long[0], 2, 2, 1, 0, 0, NONE);
        r.due(3, "dislikes", 1, 0);
        r.due(2, "live", 0);
        r.due(2, "farmer", 1, 4);
        r.taken(2, "season", names);
        r.faulty(3, 4, "season", "lie z on 0;");
        r = new Run().then("mark");
        r.taken(8, "bench", Run.knees(8));
        r.taken(1, "season", "dry;");
        r.due(0, "back");
        r.row(1, "told", new long[0], 0, 0, 0, 0, 0, NONE);
        r.no(6, "live", 0);
        r.no(1, "farmer", 0, 0);
    }

    static void promise70WhatIsNoBenchAndNoSeasonStays() {
        Run r = with(ONE + "weather rd;", "dry;").then("mark").then("tray", 1, 0, 2).then("write", 1, 1, 9);
        r.fraction(1, 1, "trust", 0);
        r.due(0, "seats");
        r.due(1, "live", 0);
        r.due(20, "feed", 0x20202020, 0x20202020, 0x20202020, 0x20202020, 0x20202020);
        r.due(0, "back");
        r.row(3, "read", new long[] {1}, 0, 9, NONE);
        r.due(1, "top");
        r.due(1, "bottom");
        r.row(6, "seatAt", new long[0], 0, NONE);
        r.row(1, "lived", new long[0], 0, 1, 0, 0, NONE);
        r.due(0, "fault", 0);
        r.due(40, "feed", 0x20202020, 0x20202020, 0x20202020, 0x20202020, 0x20202020);
        r.due(0, "bench", 40);
    }

    // ---- what only asks

    static void promise13To65WhatOnlyAsksChangesNothing() {
        String[] none = {"status", "top", "bottom", "kept", "truest", "silent", "bestLaw", "fever"};
        String[] single = {"fault", "told", "weather", "says", "tips", "right", "fewest", "lag", "spell", "believers",
            "toldBy", "flips", "rival", "quiet", "useful", "mood", "foe", "sure", "keptBy", "streak", "lies", "nextWrong",
            "warned", "agrees", "lived", "seatAt"};
        String[] two = {"read", "farmer", "dislikes", "should", "twinges", "tells", "wrongs", "wedding", "fits", "alike",
            "span", "clashes"};
        for (Run r : new Run[] {Run.some(), Run.full()}) {
            for (String name : none) {
                r.leaves(name);
            }
            for (String name : single) {
                r.leaves(name, 1);
            }
            for (String name : two) {
                r.leaves(name, 0, 1);
            }
            r.leaves("trust", 2);
            r.leaves("odds", 3, 4);
            r.leaves("hay", 3, 3, 4);
            r.then("tray", 0, 1, 60).leaves("stairs", 1, 0, 2);
        }
    }
}
