/** What the document says of edges: promises 13 to 26, what a bench tells, what is felt and told. */
final class FeltEdges {
    private static final int NONE = KneeBench.NONE;
    private static final String[] LAGS = {"ahead 0", "ahead 1", "ahead 2", "ahead 3", "behind 1", "behind 2", "behind 3"};

    private FeltEdges() {
    }

    private static Run one(String lag, String rest, String weather) {
        String days = weather.isEmpty() ? "" : "weather " + weather + ";";
        return Run.with("farmer a " + lag + " fails 0 false 0" + rest + ";" + days);
    }

    /** The draws by 16 that a seed begins. */
    private static int[] draws(int seed, int many) {
        int[] draws = new int[many];
        long s = seed;
        for (int i = 0; i < many; i++) {
            s = (s * 2857 + 11059) % 65536;
            draws[i] = (int) (s / 8 % 16);
        }
        return draws;
    }

    /** A call whose second argument is a DAY that is there. */
    private static void dayRange(String name, long... args) {
        for (Run r : new Run[] {Run.some(), Run.full(), Run.with(Run.knees(1))}) {
            r.range(1, name, 1, 0, r.days() - 1, args);
        }
        Run.with(Run.knees(1) + "weather r;").range(1, name, 1, 0, 0, args);
    }

    static void promise13Ranges() {
        for (Run r : Run.states()) {
            r.range(1, "told", 0, 0, 4, 0);
        }
    }

    static void promise13NothingAndAllThatThereCanBe() {
        new Run().row(1, "told", new long[0], 0, 0, 0, 0, 0);
        Run.with("weather d;").row(1, "told", new long[0], 0, 1, 0, 0, 0);
        Run.with("weather r;").row(1, "told", new long[0], 0, 1, 1, 0, 0);
        Run.with("weather h;vote any;").row(1, "told", new long[0], 0, 1, 1, 1, 2);
        Run.with(Run.knees(8) + "vote all;weather " + "h".repeat(60) + ";").row(1, "told", new long[0], 8, 60, 60, 60, 3);
        Run.with("vote weights;weather " + "d".repeat(60) + ";").row(1, "told", new long[0], 0, 60, 0, 0, 1);
        Run r = Run.with("weather " + "r".repeat(59) + ";");
        r.due(60, "day", 2);
        r.row(1, "told", new long[0], 0, 60, 60, 1, 0);
    }

    static void promise14Ranges() {
        Run.farmerRange("farmer", 0, 0);
        Run.some().range(1, "farmer", 1, 0, 6, 0, 0);
        Run.full().range(1, "farmer", 1, 0, 6, 7, 0);
        new Run().no(1, "farmer", 0, 7);
    }

    static void promise14StatusTellsNoneFromALagOfMinus1() {
        for (int i = 0; i < LAGS.length; i++) {
            Run r = one(LAGS[i], "", "");
            r.due(i < 4 ? i : 3 - i, "farmer", 0, 0);
            r.no(1, "farmer", 0, -1);
        }
    }

    static void promise14TheDayOfACureOrNever() {
        Run r = one("ahead 0", "", "r");
        r.no(6, "farmer", 0, 4);
        for (int day : new int[] {0, 1, 59, 60}) {
            r.due(1, "cure", 0, day);
            r.due(day, "farmer", 0, 4);
        }
        one("ahead 0", " cured 60", "").due(60, "farmer", 0, 4);
        one("ahead 0", " cured 0", "").due(0, "farmer", 0, 4);
        r.season("cure a on 60;");
        r.then("cure", 0, 3);
        r.due(1, "live", 0);
        r.due(60, "farmer", 0, 4);
    }

    static void promise14ElbowWeightAndTwinges() {
        one("ahead 0", " elbow", "").due(1, "farmer", 0, 3);
        one("ahead 0", "", "").due(0, "farmer", 0, 3);
        Run r = one("ahead 0", "", "r".repeat(60));
        r.due(60, "farmer", 0, 6);
        r.due(64, "farmer", 0, 5);
        r.then("weigh", 0, 1);
        r.due(1, "farmer", 0, 5);
        r.then("cure", 0, 0);
        r.due(60, "farmer", 0, 6);
        one("ahead 0", "", "d".repeat(60)).due(0, "farmer", 0, 6);
        one("ahead 0", "", "").due(0, "farmer", 0, 6);
        one("ahead 3", "", "r".repeat(60)).due(57, "farmer", 0, 6);
    }

    static void promise14WhatIsDueFirst() {
        Run r = one("ahead 0", "", "");
        r.no(1, "farmer", 1, 4);
        r.no(1, "farmer", 0, 7);
        r.no(1, "farmer", 1, 7);
        r.no(6, "farmer", 0, 4);
    }

    static void promise15Ranges() {
        Run.farmerRange("dislikes", 0, 0);
        Run.some().range(1, "dislikes", 1, 0, 2, 0, 0);
        Run.full().range(1, "dislikes", 1, 0, 7, 7, 0);
        new Run().no(1, "dislikes", 0, 0);
    }

    static void promise15OneAndItselfAndThoseWithout() {
        Run r = Run.with(Run.knees(3) + "dislikes c a 99;dislikes a b 0;");
        r.row(0, "dislikes", new long[] {0}, 0, 0, 99);
        r.row(0, "dislikes", new long[] {1}, 0, 0, 0);
        r.row(0, "dislikes", new long[] {2}, 99, 0, 0);
    }

    static void promise16Ranges() {
        Run.with("weather h;").range(1, "weather", 0, 0, 0, 0);
        for (Run r : Run.states()) {
            r.range(1, "weather", 0, 0, r.days() - 1, 0);
        }
    }

    static void promise16DryRainHail() {
        Run.with("weather drhhrd;").weather("drhhrd");
        Run r = Run.with("weather " + "drh".repeat(20) + ";");
        r.weather("drh".repeat(20));
        r = new Run().then("day", 0).then("day", 1).then("day", 2);
        r.weather("drh");
    }

    static void promise17Ranges() {
        Run.farmerRange("should", 0, 0);
        dayRange("should", 0, 0);
    }

    static void promise17TheDayByTheLagMustBeThere() {
        String[] five = {"11111", "11110", "11100", "11000", "01111", "00111", "00011"};
        String[] three = {"111", "110", "100", "000", "011", "001", "000"};
        String[] single = {"1", "0", "0", "0", "0", "0", "0"};
        for (int i = 0; i < LAGS.length; i++) {
            for (String letter : new String[] {"r", "h"}) {
                one(LAGS[i], "", letter.repeat(5)).shoulds(0, five[i]);
                one(LAGS[i], "", letter.repeat(3)).shoulds(0, three[i]);
                one(LAGS[i], "", letter).shoulds(0, single[i]);
                one(LAGS[i], " elbow", letter.repeat(5)).shoulds(0, letter.equals("h") ? five[i] : "00000");
            }
            one(LAGS[i], "", "d".repeat(5)).shoulds(0, "00000");
            one(LAGS[i], "", "").shoulds(0, "");
        }
    }

    static void promise17TheLastOf60Days() {
        for (int i = 0; i < LAGS.length; i++) {
            int lag = i < 4 ? i : 3 - i;
            StringBuilder want = new StringBuilder("0".repeat(60));
            if (lag >= 0) {
                want.setCharAt(59 - lag, '1');
            }
            one(LAGS[i], "", "d".repeat(59) + "r").shoulds(0, want.toString());
            want = new StringBuilder("0".repeat(60));
            if (lag <= 0) {
                want.setCharAt(-lag, '1');
            }
            one(LAGS[i], "", "r" + "d".repeat(59)).shoulds(0, want.toString());
            one(LAGS[i], "", "r".repeat(60)).shoulds(0, "0".repeat(Math.max(0, -lag)) + "1".repeat(60 - Math.abs(lag))
                    + "0".repeat(Math.max(0, lag)));
        }
    }

    static void promise17CuredOnTheDayOrAheadOfIt() {
        String[] want = {"00000", "10000", "11000", "11100", "11110", "11111", "11111"};
        for (int day = 0; day < want.length; day++) {
            one("ahead 0", " cured " + day, "rrrrr").shoulds(0, want[day]);
            one("ahead 0", "", "rrrrr").then("cure", 0, day).shoulds(0, want[day]);
        }
        one("ahead 0", " cured 60", "r".repeat(60)).shoulds(0, "1".repeat(60));
        one("ahead 0", " cured 59", "r".repeat(60)).shoulds(0, "1".repeat(59) + "0");
        // The day on which it feels, not that of the rain.
        one("ahead 2", " cured 2", "rrrrr").shoulds(0, "11000");
        one("behind 2", " cured 3", "rrrrr").shoulds(0, "00100");
    }

    static void promise17ANewDayMayBeFeltAhead() {
        Run r = one("ahead 1", "", "rr");
        r.shoulds(0, "10");
        r.due(3, "day", 1);
        r.shoulds(0, "110");
        r.felt(0, "100");
        r.due(4, "day", 0);
        r.shoulds(0, "1100");
    }

    static void promise18Ranges() {
        Run.farmerRange("twinges", 0, 0);
        dayRange("twinges", 0, 0);
    }

    static void promise18AsItShouldAtFirst() {
        one("ahead 1", "", "rdrrd").felt(0, "01100");
        one("behind 1", " elbow", "rdhrh").felt(0, "00010");
        one("ahead 0", " cured 1", "rrr").felt(0, "100");
        Run r = one("ahead 0", "", "d".repeat(59) + "r");
        r.felt(0, "0".repeat(59) + "1");
    }

    static void promise19Ranges() {
        Run.farmerRange("twinge", 0, 0, 1);
        dayRange("twinge", 0, 0, 1);
        Run.farmerRange("twinge", 0, 0, 0);
        dayRange("twinge", 0, 0, 0);
    }

    static void promise19TheFirstAndTheLastDay() {
        Run r = Run.with(Run.knees(2) + "weather rddd;");
        r.due(1, "twinge", 0, 0, 0);
        r.due(1, "twinge", 0, 3, 1);
        r.due(1, "twinge", 0, 3, 1);
        r.felt(0, "0001");
        r.felt(1, "1000");
        r.due(1, "twinge", 0, 3, 0);
        r.due(1, "twinge", 0, 3, 0);
        r.felt(0, "0000");
        r = Run.with(Run.knees(8) + "weather " + "d".repeat(60) + ";");
        r.due(1, "twinge", 7, 59, 1);
        r.felt(7, "0".repeat(59) + "1");
        r.due(1, "twinge", 7, 0, 1);
        r.due(2, "farmer", 7, 6);
        r.due(0, "farmer", 6, 6);
    }

    static void promise19OfOneThatIsCured() {
        Run r = one("ahead 0", " cured 0", "rr");
        r.due(1, "twinge", 0, 1, 1);
        r.felt(0, "01");
        r.no(6, "tells", 0, 1);
    }

    static void promise20Ranges() {
        for (Run r : Run.states()) {
            r.range(1, "feel", 0, 0, 9999, 0);
        }
    }

    static void promise20ADrawThatIsNotLessThanFails() {
        // The seed 0 draws 6, 11, 8, 3, 5, 7.
        String[] want = {"111111", "111111", "111111", "111111", "111011", "111011", "111001", "011001", "011000", "010000",
            "010000", "010000", "000000", "000000", "000000", "000000", "000000"};
        for (int fails = 0; fails <= 16; fails++) {
            Run r = Run.with("farmer a ahead 0 fails " + fails + " false 9;weather rrrrrr;");
            r.due(want[fails].chars().filter(c -> c == '1').count(), "feel", 0);
            r.felt(0, want[fails]);
        }
    }

    static void promise20ADrawThatIsLessThanFalse() {
        String[] want = {"000000", "000000", "000000", "000000", "000100", "000100", "000110", "100110", "100111", "101111",
            "101111", "101111", "111111", "111111", "111111", "111111", "111111"};
        for (int falses = 0; falses <= 16; falses++) {
            Run r = Run.with("farmer a ahead 0 fails 9 false " + falses + ";weather dddddd;");
            r.due(want[falses].chars().filter(c -> c == '1').count(), "feel", 0);
            r.felt(0, want[falses]);
            // One that is cured should feel nothing, and feels what is not there.
            r = Run.with("farmer a ahead 0 fails 9 false " + falses + " cured 0;weather rrhhrr;");
            r.ask("feel", 0);
            r.felt(0, want[falses]);
        }
    }

    static void promise20SeedsAtTheirEdges() {
        for (int seed : new int[] {0, 1, 2, 9998, 9999}) {
            int[] draws = draws(seed, 480);
            Run r = Run.with(Run.knees(8).replace("fails 0 false 0", "fails 7 false 9") + "weather "
                    + "rd".repeat(30) + ";");
            StringBuilder all = new StringBuilder();
            for (int i = 0; i < 480; i++) {
                all.append(i % 2 == 0 ? draws[i] >= 7 ? 1 : 0 : draws[i] < 9 ? 1 : 0);
            }
            r.due(all.chars().filter(c -> c == '1').count(), "feel", seed);
            for (int f = 0; f < 8; f++) {
                r.copy().felt(f, all.substring(60 * f, 60 * f + 60));
            }
        }
        Run first = Run.with("farmer a ahead 0 fails 3 false 0;weather r;");
        // 9,999 by 2,857 and 11,059 leaves 4,506, by 8: 563, by 16: 3.
        first.due(1, "feel", 9999);
        first.then("brandy", 0, 0).then("feel", 1);
        // 2,857 and 11,059 are 13,916, by 8: 1,739, by 16: 11.
        first.felt(0, "1");
    }

    static void promise20NothingAndAll() {
        new Run().due(0, "feel", 5);
        Run.with(Run.knees(8)).due(0, "feel", 5);
        Run.with("weather rrr;").due(0, "feel", 5);
        String eight = Run.knees(8).replace("false 0", "false 16");
        Run.with(eight + "weather " + "rd".repeat(30) + ";").due(480, "feel", 9999);
        Run.with(Run.knees(8).replace("fails 0", "fails 16") + "weather " + "rd".repeat(30) + ";").due(0, "feel", 0);
    }

    static void promise20WhatWasFeltIsForgotten() {
        Run r = Run.with(Run.knees(2) + "weather rd;").then("lie", 0, 0).then("lie", 0, 1).then("weigh", 0, 5);
        r.due(2, "feel", 3);
        r.felt(0, "10");
        r.felt(1, "10");
        r.due(5, "farmer", 0, 5);
        r.due(2, "feel", 3);
    }

    static void promise21Ranges() {
        Run.farmerRange("lie", 0, 0);
        dayRange("lie", 0, 0);
    }

    static void promise21TurnedRoundOnThatDayAlone() {
        Run r = Run.with(Run.knees(2) + "weather rdr;");
        r.due(0, "lie", 0, 0);
        r.due(0, "lie", 0, 2);
        r.due(1, "lie", 0, 1);
        r.felt(0, "010");
        r.felt(1, "101");
        r.due(1, "lie", 0, 0);
        r.felt(0, "110");
        r = Run.with(Run.knees(8) + "weather " + "d".repeat(60) + ";");
        r.due(1, "lie", 7, 59);
        r.felt(7, "0".repeat(59) + "1");
        r.due(0, "lie", 7, 59);
    }

    static void promise22Ranges() {
        Run.farmerRange("cure", 0, 0);
        Run.some().range(1, "cure", 1, 0, 60, 0, 0);
        Run.full().range(1, "cure", 1, 0, 60, 7, 0);
        Run.with(Run.knees(1)).range(1, "cure", 1, 0, 60, 0, 0);
        new Run().no(1, "cure", 0, 0);
    }

    static void promise22FromThatDayOnAndTheTwingesStay() {
        Run r = one("ahead 0", "", "rrrr");
        r.due(1, "cure", 0, 2);
        r.shoulds(0, "1100");
        r.felt(0, "1111");
        r.row(6, "tells", new long[] {0}, 1, 1, NONE, NONE, NONE);
        r.due(1, "cure", 0, 4);
        r.shoulds(0, "1111");
        r.row(6, "tells", new long[] {0}, 1, 1, 1, 1, NONE);
        r.due(1, "cure", 0, 0);
        r.shoulds(0, "0000");
        r.row(6, "tells", new long[] {0}, NONE, NONE, NONE, NONE, NONE);
    }

    static void promise22OnADayThatIsNotThereYet() {
        Run r = one("ahead 0", "", "");
        r.due(1, "cure", 0, 1);
        r.then("day", 1).then("day", 1);
        r.shoulds(0, "10");
        r.row(6, "tells", new long[] {0}, 0, NONE);
    }

    static void promise23Ranges() {
        Run.farmerRange("brandy", 0, 0);
        Run.some().range(1, "brandy", 1, 0, 16, 0, 0);
        Run.full().range(1, "brandy", 1, 0, 16, 7, 0);
        new Run().no(1, "brandy", 0, 0);
    }

    static void promise23FalseAloneIsChanged() {
        Run r = Run.with(Run.knees(2) + "weather dd;");
        r.due(1, "brandy", 1, 16);
        r.due(16, "farmer", 1, 2);
        r.due(0, "farmer", 0, 2);
        r.due(0, "farmer", 1, 1);
        r.felt(1, "00");
        r.due(2, "feel", 0);
        r.felt(1, "11");
        r.due(1, "brandy", 1, 0);
        r.due(0, "feel", 0);
    }

    static void promise24Ranges() {
        for (Run r : new Run[] {new Run(), Run.some()}) {
            r.range(1, "day", 0, 0, 2, 0);
        }
        for (long v : new long[] {-1, 3, Integer.MIN_VALUE, Integer.MAX_VALUE}) {
            Run.full().no(1, "day", v);
        }
    }

    static void promise24SixtyDaysAndNo61st() {
        Run r = Run.with(Run.knees(1) + "weather " + "r".repeat(57) + ";");
        r.due(58, "day", 0);
        r.due(59, "day", 1);
        r.due(60, "day", 2);
        for (int weather = 0; weather < 3; weather++) {
            r.no(4, "day", weather);
        }
        r.no(1, "day", 3);
        r.weather("r".repeat(57) + "drh");
        Run.full().no(4, "day", 0);
        Run one = new Run();
        one.due(1, "day", 2);
        one.due(2, "day", 0);
    }

    static void promise24NobodyTwingesOnItAndNothingAheadChanges() {
        Run r = Run.with("farmer a ahead 0 fails 0 false 16;farmer b ahead 2 fails 0 false 16;"
                + "farmer c behind 1 fails 0 false 16;weather rr;");
        r.due(3, "day", 2);
        r.due(4, "day", 1);
        r.felt(0, "1100");
        r.felt(1, "0000");
        r.felt(2, "0100");
        r.shoulds(0, "1111");
        r.shoulds(1, "1100");
        r.shoulds(2, "0111");
        r.due(2, "farmer", 0, 6);
    }

    static void promise25Ranges() {
        Run.farmerRange("tells", 0, 0);
        Run.some().range(1, "tells", 1, 0, 62, 0, 0);
        Run.full().range(1, "tells", 1, 0, 62, 7, 0);
        Run.with(Run.knees(1)).range(1, "tells", 1, 0, 62, 0, 0);
        new Run().no(1, "tells", 0, 63);
    }

    static void promise25WhatIsDueFirst() {
        Run cured = one("ahead 0", " cured 0", "rr");
        cured.no(1, "tells", 0, 63);
        cured.no(1, "tells", 0, -1);
        cured.no(1, "tells", 1, 0);
        cured.no(1, "tells", -1, 0);
        cured.no(6, "tells", 0, 0);
        cured.no(6, "tells", 0, 62);
        cured.no(6, "tells", 0, 2);
    }

    static void promise25WhatItFeltSoManyDaysAheadOrBehind() {
        int x = NONE;
        long[][] want = {{1, 1, 1, 1, x, x, x, x}, {x, 1, 1, 1, 0, x, x, x}, {x, x, 1, 1, 0, 0, x, x},
            {x, x, x, 1, 0, 0, 0, x}, {1, 1, 1, x, x, x, x, x}, {1, 1, x, x, x, x, x, x}, {1, x, x, x, x, x, x, x}};
        for (int i = 0; i < LAGS.length; i++) {
            one(LAGS[i], "", "rrrr").row(6, "tells", new long[] {0}, want[i]);
            one(LAGS[i], "", "").row(6, "tells", new long[] {0}, x, x, x, x, x);
        }
    }

    static void promise25TheLastDaysOf60() {
        int[] last = {59, 60, 61, 62, 58, 57, 56};
        for (int i = 0; i < LAGS.length; i++) {
            Run r = one(LAGS[i], "", "d".repeat(60)).then("twinge", 0, 59, 1);
            r.due(1, "tells", 0, last[i]);
            r.due(0, "tells", 0, last[i] - 1);
            if (last[i] < 62) {
                r.no(6, "tells", 0, last[i] + 1);
            }
            r.no(1, "tells", 0, 63);
        }
        Run first = one("ahead 3", "", "d".repeat(60)).then("twinge", 0, 0, 1);
        first.row(6, "tells", new long[] {0}, NONE, NONE, NONE, 1, 0);
    }

    static void promise25CuredOnTheDayItFeltOrAheadOfIt() {
        int x = NONE;
        one("ahead 1", " cured 2", "rrrr").row(6, "tells", new long[] {0}, x, 1, 1, x, x);
        one("behind 1", " cured 2", "rrrr").row(6, "tells", new long[] {0}, 1, x, x, x);
        one("ahead 0", " cured 2", "rrrr").row(6, "tells", new long[] {0}, 1, 1, x, x);
        one("ahead 0", " cured 0", "rrrr").row(6, "tells", new long[] {0}, x, x, x, x);
        one("behind 3", " cured 3", "rrrr").row(6, "tells", new long[] {0}, x, x);
        one("behind 3", " cured 4", "rrrr").row(6, "tells", new long[] {0}, 1, x);
        Run r = one("ahead 0", " cured 59", "r".repeat(60));
        r.due(1, "tells", 0, 58);
        r.no(6, "tells", 0, 59);
        r.due(1, "cure", 0, 60);
        r.due(0, "tells", 0, 59);
    }

    static void promise26Ranges() {
        Run.farmerRange("wrongs", 0, 0);
        Run.some().range(1, "wrongs", 1, 0, 1, 0, 0);
        Run.full().range(1, "wrongs", 1, 0, 1, 7, 0);
        new Run().no(1, "wrongs", 0, 2);
    }

    static void promise26NoneAndAll() {
        one("ahead 0", "", "").row(1, "wrongs", new long[] {0}, 0, 0, NONE);
        one("ahead 0", "", "rdrd").row(1, "wrongs", new long[] {0}, 0, 0, NONE);
        Run r = one("ahead 0", "", "rdddd");
        for (int d = 0; d < 5; d++) {
            r.ask("lie", 0, d);
        }
        r.row(1, "wrongs", new long[] {0}, 4, 1, NONE);
        one("ahead 0", "", "r".repeat(60)).then("cure", 0, 0).row(1, "wrongs", new long[] {0}, 60, 0, NONE);
        Run all = one("ahead 0", " cured 0", "r".repeat(60));
        all.row(1, "wrongs", new long[] {0}, 0, 0, NONE);
        all.then("cure", 0, 60).row(1, "wrongs", new long[] {0}, 0, 60, NONE);
    }

    static void promise26ANewDayThatOneShouldHaveFelt() {
        Run r = one("ahead 1", "", "d");
        r.row(1, "wrongs", new long[] {0}, 0, 0, NONE);
        r.ask("day", 1);
        r.row(1, "wrongs", new long[] {0}, 0, 1, NONE);
        r = one("ahead 0", " elbow", "rh").then("lie", 0, 0).then("lie", 0, 1);
        r.row(1, "wrongs", new long[] {0}, 1, 1, NONE);
    }
}
