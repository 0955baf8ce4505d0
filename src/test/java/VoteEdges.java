/** What the document says of edges: promises 27 to 37, and 45, 48, 56, 57, 58 where they hang by the same votes. */
final class VoteEdges {
    private static final int NONE = KneeBench.NONE;
    private static final String[] LAWS = {"most", "weights", "any", "all"};

    private VoteEdges() {
    }

    // ---- so many who tell, so many of them rain, by each law

    private static boolean says(int law, int tellers, int rain) {
        switch (law) {
            case 0:
            case 1:
                return rain > tellers - rain;
            case 2:
                return rain >= 1;
            default:
                return rain == tellers;
        }
    }

    /** Of eight farmers the last ones are cured; the first ones of those who tell, tell rain. */
    private static Run vote(int law, int tellers, int rain, String weather) {
        StringBuilder b = new StringBuilder();
        for (int f = 0; f < 8; f++) {
            b.append("farmer ").append((char) ('a' + f)).append(" ahead 0 fails 0 false 0");
            b.append(f < tellers ? ";" : " cured 0;");
        }
        Run r = Run.with(b + "weather " + weather + ";vote " + LAWS[law] + ";");
        for (int f = 0; f < 8; f++) {
            // What a cured one felt must not be heard.
            r.ask("twinge", f, 0, f < rain || f >= tellers && rain == 0 ? 1 : 0);
        }
        return r;
    }

    private interface EachVote {
        void look(Run r, int law, int tellers, int rain);
    }

    private static void eachVote(EachVote each) {
        for (int law = 0; law < 4; law++) {
            for (int tellers = 1; tellers <= 8; tellers++) {
                for (int rain = 0; rain <= tellers; rain++) {
                    each.look(vote(law, tellers, rain, "d"), law, tellers, rain);
                }
            }
        }
    }

    static void promise27EachLawByHowManyTell() {
        eachVote((r, law, tellers, rain) -> r.due(says(law, tellers, rain) ? 1 : 0, "says", 0));
        for (int law = 0; law < 4; law++) {
            vote(law, 0, 0, "d").no(6, "says", 0);
        }
    }

    static void promise28ThoseWhoseWordTurnedRoundTips() {
        eachVote((r, law, tellers, rain) -> {
            int tips = 0;
            for (int f = 0; f < tellers; f++) {
                if (says(law, tellers, f < rain ? rain - 1 : rain + 1) != says(law, tellers, rain)) {
                    tips |= 1 << f;
                }
            }
            r.due(tips, "tips", 0);
        });
        vote(2, 8, 0, "d").due(255, "tips", 0);
        vote(3, 8, 8, "d").due(255, "tips", 0);
        vote(3, 8, 0, "d").due(0, "tips", 0);
        for (int law = 0; law < 4; law++) {
            vote(law, 0, 0, "d").no(6, "tips", 0);
            vote(law, 1, 0, "d").due(1, "tips", 0);
            vote(law, 1, 1, "d").due(1, "tips", 0);
        }
    }

    static void promise31KeptByEachLaw() {
        eachVote((r, law, tellers, rain) -> r.due(says(law, tellers, rain) ? 0 : 1, "kept"));
        for (String weather : new String[] {"r", "h"}) {
            vote(0, 3, 2, weather).due(1, "kept");
            vote(0, 3, 1, weather).due(0, "kept");
            vote(0, 0, 0, weather).due(0, "kept");
        }
        vote(0, 0, 0, "d").due(0, "kept");
    }

    static void promise45BelieversOfEachVote() {
        eachVote((r, law, tellers, rain) -> r.due((1 << rain) - 1, "believers", 0));
        vote(0, 0, 0, "d").due(0, "believers", 0);
    }

    static void promise48TheFewestThatMustBeTurnedRound() {
        eachVote((r, law, tellers, rain) -> {
            int fewest = 99;
            for (int from = 0; from <= rain; from++) {
                for (int to = 0; to <= tellers - rain; to++) {
                    if (says(law, tellers, rain - from + to) != says(law, tellers, rain)) {
                        fewest = Math.min(fewest, from + to);
                    }
                }
            }
            r.due(fewest, "flips", 0);
        });
        vote(3, 8, 0, "d").due(8, "flips", 0);
        vote(2, 8, 8, "d").due(8, "flips", 0);
        for (int law = 0; law < 4; law++) {
            vote(law, 0, 0, "d").no(6, "flips", 0);
        }
    }

    static void promise56SureOfEachVote() {
        eachVote((r, law, tellers, rain) -> r.due(64 * (2 * rain - tellers), "sure", 0));
        vote(0, 0, 0, "d").no(6, "sure", 0);
    }

    static void promise57And58EachLawInTurn() {
        eachVote((r, law, tellers, rain) -> {
            int best = 0;
            for (int other = 0; other < 4; other++) {
                r.due(says(other, tellers, rain) ? 0 : 1, "keptBy", other);
                if (says(best, tellers, rain) && !says(other, tellers, rain)) {
                    best = other;
                }
            }
            r.due(best, "bestLaw");
        });
    }

    // ---- by weights

    private static Run weighed(String law, int... weights) {
        Run r = Run.with(Run.knees(weights.length) + "weather d;vote " + law + ";");
        for (int f = 0; f < weights.length; f++) {
            r.then("weigh", f, Math.abs(weights[f])).then("twinge", f, 0, weights[f] > 0 ? 1 : 0);
        }
        return r;
    }

    static void promise27MoreWeightAndNotAsMuch() {
        weighed("weights", 64, -32, -32).due(0, "says", 0);
        weighed("weights", 64, -32, -31).due(1, "says", 0);
        weighed("weights", -64, 32, 32).due(0, "says", 0);
        weighed("weights", -63, 32, 32).due(1, "says", 0);
        weighed("weights", 1).due(1, "says", 0);
        weighed("weights", -1).due(0, "says", 0);
        weighed("weights", 1, -1).due(0, "says", 0);
        weighed("weights", 64, 64, 64, 64, -64, -64, -64, -63).due(1, "says", 0);
        weighed("weights", 64, 64, 64, 63, -64, -64, -64, -64).due(0, "says", 0);
        weighed("most", 1, 1, -64).due(1, "says", 0);
        weighed("any", 1, -64).due(1, "says", 0);
        weighed("all", 64, -1).due(0, "says", 0);
    }

    static void promise28ByWeights() {
        weighed("weights", 5, -3, -2).due(6, "tips", 0);
        weighed("weights", 6, -3, -2).due(1, "tips", 0);
        weighed("weights", 3, 3, -1).due(3, "tips", 0);
        weighed("weights", 9, 9, -1).due(3, "tips", 0);
        weighed("weights", 9, 9, -1, 1).due(3, "tips", 0);
        weighed("weights", 9, 9, 9, -1).due(0, "tips", 0);
        weighed("weights", -64, -1).due(1, "tips", 0);
        weighed("weights", -2, -1, 1, 1).due(3, "tips", 0);
    }

    static void promise48ByWeights() {
        weighed("weights", 10, 9, -1).due(1, "flips", 0);
        weighed("weights", 9, 9, 9, -1).due(2, "flips", 0);
        weighed("weights", -64, -1, -1, -1).due(1, "flips", 0);
        weighed("weights", 10, 9, 4, -1).due(2, "flips", 0);
        weighed("weights", 10, 9, 2, -1).due(1, "flips", 0);
    }

    static void promise56ByWeights() {
        weighed("most", 3, -4).due(-1, "sure", 0);
        weighed("most", 3, -3).due(0, "sure", 0);
        weighed("most", 4, -3).due(1, "sure", 0);
        weighed("any", 64, 64, 64, 64, 64, 64, 64, 64).due(512, "sure", 0);
        weighed("any", -64, -64, -64, -64, -64, -64, -64, -64).due(-512, "sure", 0);
    }

    // ---- which days

    static void promise27Ranges() {
        Run.toldDayRange("says");
    }

    static void promise28Ranges() {
        Run.toldDayRange("tips");
    }

    static void promise27And28And48And56WhatIsDueFirst() {
        for (Run r : new Run[] {new Run(), vote(0, 0, 0, "d"), Run.with(Run.knees(8))}) {
            for (String name : new String[] {"says", "tips", "flips", "sure"}) {
                r.no(1, name, -1);
                r.no(6, name, 0);
                r.no(6, name, 62);
                r.no(1, name, 63);
            }
        }
    }

    static void promise30WhatIsDueFirst() {
        Run r = Run.with(Run.knees(1));
        r.no(1, "trust", -1);
        r.no(6, "trust", 0);
        r.no(1, "trust", 1);
    }

    private static final String BOTH_WAYS = "farmer a ahead 3 fails 0 false 0;farmer b behind 3 fails 0 false 0;";

    static void promise27And28OfDaysThatNobodyTellsOf() {
        Run r = Run.with(BOTH_WAYS + "weather rrrr;");
        r.row(6, "says", new long[0], 1, NONE, NONE, 1, 0, 0, 0, NONE);
        r.row(6, "tips", new long[0], 2, NONE, NONE, 1, 1, 1, 1, NONE);
        r.no(6, "says", 62);
        Run sixty = Run.with(BOTH_WAYS + "weather " + "r".repeat(60) + ";").then("twinge", 0, 59, 1);
        sixty.due(1, "says", 62);
        sixty.due(0, "says", 61);
        sixty.due(1, "tips", 62);
        sixty.due(2, "tips", 0);
        sixty.due(1, "says", 0);
        sixty.no(1, "says", 63);
        sixty.no(1, "tips", 63);
    }

    // ---- right, trust, kept, learn

    static void promise29Ranges() {
        Run.farmerRange("right", 0);
    }

    static void promise29OfDaysThatAreThereAndTold() {
        Run.with(Run.knees(1)).due(0, "right", 0);
        Run.with(Run.knees(1) + "weather " + "rdh".repeat(20) + ";").due(60, "right", 0);
        Run.with(Run.knees(1) + "weather rdh;").then("cure", 0, 0).due(0, "right", 0);
        Run.with(Run.knees(1) + "weather rdh;").then("cure", 0, 1).due(1, "right", 0);
        int[] days = {2, 1, 0, 0, 2, 1, 0};
        String[] lags = {"ahead 1", "ahead 2", "ahead 3", "ahead 3", "behind 1", "behind 2", "behind 3"};
        for (int i = 0; i < lags.length; i++) {
            Run r = Run.with("farmer a " + lags[i] + " fails 0 false 0;weather rrr;");
            r.due(days[i], "right", 0);
            r.due(days[i], "toldBy", 0);
        }
        Run all = Run.with(Run.knees(1) + "weather " + "rd".repeat(30) + ";");
        for (int d = 0; d < 60; d++) {
            all.ask("lie", 0, d);
        }
        all.due(0, "right", 0);
        all.due(60, "toldBy", 0);
    }

    static void promise29AnElbowByHailAlone() {
        Run r = Run.with("farmer a ahead 0 fails 0 false 0 elbow;weather drh;");
        r.due(3, "right", 0);
        r.ask("lie", 0, 1);
        r.due(2, "right", 0);
        r.ask("lie", 0, 2);
        r.due(1, "right", 0);
        Run knee = Run.with(Run.knees(1) + "weather drh;");
        knee.due(3, "right", 0);
        knee.ask("lie", 0, 1);
        knee.due(2, "right", 0);
    }

    static void promise30Ranges() {
        Run.farmerRange("trust", 0);
    }

    static void promise30NoDayThatIsThereIsTold() {
        Run.with(Run.knees(1)).no(6, "trust", 0);
        Run.with(Run.knees(1) + "weather d;").fraction(1, 1, "trust", 0);
        Run.with(Run.knees(1) + "weather d;").then("cure", 0, 0).no(6, "trust", 0);
        Run.with(Run.knees(1) + "weather dd;").then("cure", 0, 1).fraction(1, 1, "trust", 0);
        for (String lag : new String[] {"ahead ", "behind "}) {
            for (int n = 1; n <= 3; n++) {
                String bench = "farmer a " + lag + n + " fails 0 false 0;weather ";
                Run.with(bench + "d".repeat(n) + ";").no(6, "trust", 0);
                Run.with(bench + "d".repeat(n + 1) + ";").fraction(1, 1, "trust", 0);
            }
        }
        Run late = Run.with("farmer a behind 1 fails 0 false 0 cured 1;weather ddd;");
        late.no(6, "trust", 0);
        late.then("cure", 0, 2).fraction(1, 1, "trust", 0);
    }

    static void promise30NoneAndAllOf60() {
        Run r = Run.with(Run.knees(1) + "weather " + "r".repeat(60) + ";");
        r.fraction(1, 1, "trust", 0);
        r.ask("lie", 0, 59);
        r.fraction(59, 60, "trust", 0);
        for (int d = 0; d < 58; d++) {
            r.ask("lie", 0, d);
        }
        r.fraction(1, 60, "trust", 0);
        r.ask("lie", 0, 58);
        r.fraction(0, 1, "trust", 0);
    }

    static void promise31NothingAndAll() {
        new Run().due(0, "kept");
        Run.with(Run.knees(8)).due(0, "kept");
        Run.with("weather dd;").due(0, "kept");
        Run.with(Run.knees(8) + "weather " + "rdh".repeat(20) + ";").due(60, "kept");
        Run.with("farmer a ahead 1 fails 0 false 0;weather dddd;").due(3, "kept");
        Run.with("farmer a behind 3 fails 0 false 0;weather dddd;").due(1, "kept");
        Run r = Run.with(Run.knees(1) + "weather " + "rd".repeat(30) + ";");
        for (int d = 0; d < 60; d++) {
            r.ask("lie", 0, d);
        }
        r.due(0, "kept");
    }

    static void promise32Ranges() {
        for (Run r : Run.states()) {
            r.range(1, "learn", 0, 0, r.days() - 1, 0);
        }
        Run.with(Run.knees(1) + "weather d;").range(1, "learn", 0, 0, 0, 0);
    }

    static void promise32HalvedRoundedDownNeverBelow1() {
        Run r = Run.with(Run.knees(1) + "weather d;").then("lie", 0, 0);
        for (int want : new int[] {32, 16, 8, 4, 2, 1, 1, 1}) {
            r.due(1, "learn", 0);
            r.due(want, "farmer", 0, 5);
        }
        int[][] halved = {{1, 1}, {2, 1}, {3, 1}, {4, 2}, {5, 2}, {63, 31}, {64, 32}};
        for (int[] pair : halved) {
            r.then("weigh", 0, pair[0]);
            r.due(1, "learn", 0);
            r.due(pair[1], "farmer", 0, 5);
        }
        r.then("lie", 0, 0);
        r.due(0, "learn", 0);
        r.due(32, "farmer", 0, 5);
    }

    static void promise32EachWhoTellsAndIsNotRight() {
        Run r = Run.with(Run.knees(8) + "weather d;");
        r.due(0, "learn", 0);
        for (int f = 0; f < 8; f++) {
            r.ask("lie", f, 0);
        }
        r.then("cure", 3, 0).then("lie", 4, 0);
        r.due(6, "learn", 0);
        for (int f = 0; f < 8; f++) {
            r.due(f == 3 || f == 4 ? 64 : 32, "farmer", f, 5);
        }
        Run.with(Run.knees(8) + "weather r;").due(0, "learn", 0);
        Run.with("weather r;").due(0, "learn", 0);
    }

    static void promise32ByTheLagAndByTheElbow() {
        Run r = Run.with("farmer a ahead 1 fails 0 false 0;farmer b behind 1 fails 0 false 0;"
                + "farmer c ahead 0 fails 0 false 0 elbow;weather rrr;");
        r.due(0, "learn", 0);
        r.due(0, "learn", 2);
        r.then("lie", 0, 2).then("lie", 1, 0);
        r.due(0, "learn", 0);
        r.due(0, "learn", 2);
        r.then("lie", 0, 0).then("lie", 1, 2).then("lie", 2, 1);
        r.due(3, "learn", 1);
        r.due(0, "learn", 0);
        Run hail = Run.with("farmer c ahead 0 fails 0 false 0 elbow;weather rh;").then("lie", 0, 1);
        hail.due(0, "learn", 0);
        hail.due(1, "learn", 1);
    }

    static void promise33Ranges() {
        Run.farmerRange("weigh", 0, 1);
        Run.some().range(1, "weigh", 1, 1, 64, 0, 1);
        Run.full().range(1, "weigh", 1, 1, 64, 7, 1);
        new Run().no(1, "weigh", 0, 0);
    }

    static void promise33TheLeastAndTheMost() {
        Run r = Run.with(Run.knees(2));
        for (int weight : new int[] {1, 2, 63, 64}) {
            r.due(1, "weigh", 1, weight);
            r.due(weight, "farmer", 1, 5);
            r.due(64, "farmer", 0, 5);
        }
    }

    // ---- truest

    static void promise34NobodyTells() {
        new Run().no(6, "truest");
        Run.with(Run.knees(8)).no(6, "truest");
        Run.with("weather rrr;").no(6, "truest");
        Run.with("farmer a ahead 3 fails 0 false 0;weather rrr;").no(6, "truest");
        Run.with("farmer a ahead 3 fails 0 false 0;weather rrrr;").due(0, "truest");
        Run.with("farmer a behind 3 fails 0 false 0;weather rrr;").no(6, "truest");
        Run.with("farmer a ahead 3 fails 0 false 0;farmer b ahead 0 fails 0 false 0 cured 0;weather rrr;").no(6, "truest");
        Run.with("farmer a ahead 3 fails 0 false 0;farmer b ahead 0 fails 0 false 0 cured 1;weather rrr;").due(1, "truest");
    }

    static void promise34OfSeveralTheFirst() {
        Run.with(Run.knees(8) + "weather d;").due(0, "truest");
        Run r = Run.with(Run.knees(3) + "weather dddd;").then("cure", 0, 2).then("lie", 0, 0).then("lie", 1, 0)
                .then("lie", 1, 3).then("lie", 2, 1);
        r.due(2, "truest");
        r.ask("lie", 2, 2);
        // 1 of 2, 2 of 4, 2 of 4.
        r.due(0, "truest");
        r.ask("lie", 0, 1);
        r.due(1, "truest");
        r.then("lie", 2, 1);
        r.due(2, "truest");
    }

    static void promise34RightByToldAndNotByHowMany() {
        Run r = Run.with(Run.knees(2) + "weather " + "d".repeat(60) + ";").then("cure", 0, 59).then("lie", 0, 0)
                .then("lie", 1, 0);
        // 58 of 59, 59 of 60.
        r.due(1, "truest");
        r.then("cure", 1, 1).then("cure", 0, 2);
        // 1 of 2, 0 of 1.
        r.due(0, "truest");
        r.then("lie", 0, 1);
        r.due(0, "truest");
        r.then("lie", 1, 0);
        r.due(1, "truest");
    }

    // ---- odds, hay, wedding

    static void promise35Ranges() {
        for (Run r : Run.states()) {
            r.range(1, "odds", 0, 0, 62, 0, 8);
            r.range(1, "odds", 1, 1, 15, 62, 8);
        }
    }

    static void promise35WhatIsDueFirst() {
        Run r = Run.with("farmer a ahead 0 fails 16 false 0;weather r;");
        r.no(7, "odds", 0, 1);
        r.no(7, "odds", 0, 15);
        r.no(1, "odds", 0, 0);
        r.no(1, "odds", 0, 16);
        r.fraction(1, 16, "odds", 1, 1);
        r.fraction(15, 16, "odds", 62, 15);
    }

    private static Run one(int fails, int falses, String rest, boolean tellsRain) {
        return Run.with("farmer a ahead 0 fails " + fails + " false " + falses + rest + ";weather d;")
                .then("twinge", 0, 0, tellsRain ? 1 : 0);
    }

    static void promise35WhatCanNeverBe() {
        one(16, 0, "", true).no(7, "odds", 0, 8);
        one(16, 0, "", false).fraction(1, 2, "odds", 0, 8);
        one(0, 16, "", false).no(7, "odds", 0, 8);
        one(0, 16, "", true).fraction(1, 2, "odds", 0, 8);
        one(15, 0, "", true).fraction(1, 1, "odds", 0, 1);
        one(16, 1, "", true).fraction(0, 1, "odds", 0, 15);
        one(0, 15, "", false).fraction(0, 1, "odds", 0, 15);
        one(1, 16, "", false).fraction(1, 1, "odds", 0, 1);
        one(16, 0, " elbow", true).fraction(1, 2, "odds", 0, 8);
        one(16, 0, " cured 0", true).fraction(1, 2, "odds", 0, 8);
        Run two = Run.with("farmer a ahead 0 fails 0 false 5;farmer b ahead 0 fails 5 false 0;weather r;").then("lie", 0, 0);
        two.no(7, "odds", 0, 8);
        two.then("brandy", 1, 1).fraction(0, 1, "odds", 0, 8);
    }

    static void promise35EachFailsAndFalse() {
        for (int n = 0; n <= 16; n++) {
            // Told rain: 8 by 16 - n by rain, 8 by 8 by dry; told dry: n, 8.
            ratio(one(n, 8, "", true), 16 - n, 8);
            ratio(one(n, 8, "", false), n, 8);
            ratio(one(8, n, "", true), 8, n);
            ratio(one(8, n, "", false), 8, 16 - n);
        }
    }

    private static void ratio(Run r, int rain, int dry) {
        int a = rain;
        int b = rain + dry;
        for (int k = 2; k <= b; k++) {
            while (a % k == 0 && b % k == 0 && b > 1) {
                a /= k;
                b /= k;
            }
        }
        r.fraction(a, a == 0 ? 1 : b, "odds", 0, 8);
    }

    static void promise35OfDaysThatAreNotThere() {
        Run r = Run.with("farmer a ahead 3 fails 4 false 4;weather rrr;");
        r.fraction(1, 2, "odds", 2, 8);
        // Felt on the days 0 to 2: nothing, as there is no day 3.
        r.fraction(1, 4, "odds", 3, 8);
        r.fraction(1, 4, "odds", 5, 8);
        r.fraction(1, 2, "odds", 6, 8);
        r.then("twinge", 0, 2, 1).fraction(3, 4, "odds", 5, 8);
        Run sixty = Run.with("farmer a ahead 3 fails 4 false 4;weather " + "d".repeat(60) + ";").then("twinge", 0, 59, 1);
        sixty.fraction(3, 4, "odds", 62, 8);
        sixty.fraction(1, 4, "odds", 61, 8);
    }

    static void promise36Ranges() {
        for (Run r : new Run[] {new Run(), Run.some(), Run.full()}) {
            r.range(1, "hay", 0, 0, 62, 0, 1, 8);
            r.range(1, "hay", 0, 0, 61, 0, 2, 8);
            r.range(1, "hay", 0, 0, 60, 0, 3, 8);
            r.range(1, "hay", 1, 1, 3, 60, 1, 8);
            r.range(1, "hay", 1, 1, 2, 61, 1, 8);
            r.range(1, "hay", 1, 1, 1, 62, 1, 8);
            r.range(1, "hay", 2, 1, 15, 60, 3, 8);
        }
        new Run().no(1, "hay", Integer.MAX_VALUE, Integer.MAX_VALUE, 8);
        new Run().no(1, "hay", Integer.MAX_VALUE, 1, 8);
        new Run().no(1, "hay", 62, Integer.MIN_VALUE, 8);
    }

    static void promise36NobodyTells() {
        Run r = new Run();
        r.fraction(1, 2, "hay", 62, 1, 8);
        r.fraction(1, 4, "hay", 61, 2, 8);
        r.fraction(1, 8, "hay", 60, 3, 8);
        r.fraction(1, 4096, "hay", 0, 3, 15);
        r.fraction(3375, 4096, "hay", 0, 3, 1);
        r.fraction(15, 16, "hay", 0, 1, 1);
    }

    static void promise36OneOfThemHasNoOdds() {
        for (int bad = 0; bad < 3; bad++) {
            Run r = Run.with("farmer a ahead 0 fails 16 false 0;weather ddd;").then("lie", 0, bad);
            for (int day = 0; day < 3; day++) {
                for (int k = 1; k <= 3; k++) {
                    if (day <= bad && bad < day + k) {
                        r.no(7, "hay", day, k, 8);
                    } else {
                        r.fraction(1, 1L << k, "hay", day, k, 8);
                    }
                }
            }
            r.no(1, "hay", bad, 0, 8);
            r.no(1, "hay", bad, 4, 8);
            r.no(1, "hay", bad, 1, 16);
        }
        // A day that is sure to be wet does not hide one without odds.
        Run r = Run.with("farmer a ahead 0 fails 16 false 0;farmer b ahead 0 fails 1 false 0;weather rr;").then("lie", 0, 0);
        r.fraction(0, 1, "hay", 0, 1, 8);
        r.no(7, "hay", 0, 2, 8);
        r = Run.with("farmer a ahead 0 fails 16 false 1;farmer b ahead 0 fails 1 false 0;weather dd;").then("lie", 1, 0);
        r.fraction(0, 1, "hay", 0, 2, 8);
    }

    static void promise36WholeMillionthsRoundedDown() {
        // Dry 8 of 8 + 4: 666,666.
        Run r = Run.with("farmer a ahead 0 fails 12 false 8;weather ddd;");
        for (int d = 0; d < 3; d++) {
            r.ask("lie", 0, d);
        }
        r.fraction(333333, 500000, "hay", 0, 1, 8);
        r.fraction(333333L * 333333, 250000000000L, "hay", 0, 2, 8);
        r.fraction(333333L * 333333 * 333333, 125000000000000000L, "hay", 0, 3, 8);
        // Dry 1 of 3: 333,333.
        one(0, 8, "", true).fraction(333333, 1000000, "hay", 0, 1, 8);
        // Dry 16 of 17: 941,176; 1 of 17: 58,823.
        one(15, 16, "", true).fraction(117647, 125000, "hay", 0, 1, 8);
        one(0, 1, "", true).fraction(58823, 1000000, "hay", 0, 1, 8);
        one(0, 0, "", true).fraction(0, 1, "hay", 0, 1, 8);
        one(0, 0, "", false).fraction(1, 1, "hay", 0, 1, 8);
        // Less than a millionth: 15 by 16 to the seventh by rain, 1 by 1 by dry.
        StringBuilder eight = new StringBuilder();
        for (char c = 'a'; c < 'i'; c++) {
            eight.append("farmer ").append(c).append(" ahead 0 fails 0 false 1;");
        }
        Run.with(eight + "weather r;").fraction(0, 1, "hay", 0, 1, 15);
    }

    static void promise37Ranges() {
        for (Run r : Run.states()) {
            r.range(1, "wedding", 0, 0, 62, 0, 62);
            r.range(1, "wedding", 0, 0, 5, 0, 5);
            r.range(1, "wedding", 1, 0, 62, 0, 0);
            r.range(1, "wedding", 1, 62, 62, 62, 62);
            r.range(1, "wedding", 1, 5, 62, 5, 5);
            r.no(1, "wedding", 63, 63);
            r.no(1, "wedding", -1, -1);
        }
    }

    static void promise37OfSeveralTheFirst() {
        new Run().due(0, "wedding", 0, 62);
        new Run().due(62, "wedding", 62, 62);
        new Run().due(31, "wedding", 31, 62);
        Run r = Run.with(Run.knees(2) + "weather rdrddr;");
        r.due(1, "wedding", 0, 5);
        r.due(1, "wedding", 0, 62);
        r.due(1, "wedding", 1, 1);
        r.due(3, "wedding", 2, 5);
        r.due(0, "wedding", 0, 0);
        r.due(6, "wedding", 5, 62);
        r.due(5, "wedding", 5, 5);
        r.ask("lie", 1, 3);
        r.due(4, "wedding", 2, 5);
        r.due(2, "wedding", 2, 2);
        r.due(3, "wedding", 2, 3);
    }

    static void promise37ByWeightsAndOfDaysThatAreNotThere() {
        Run r = Run.with("farmer a ahead 3 fails 0 false 0;farmer b ahead 0 fails 0 false 0;weather " + "d".repeat(60) + ";");
        r.due(3, "wedding", 0, 62);
        r.due(59, "wedding", 59, 62);
        r.then("twinge", 0, 57, 1).then("twinge", 0, 58, 1);
        r.due(62, "wedding", 60, 62);
        r.then("weigh", 0, 10).then("weigh", 1, 9).then("twinge", 0, 56, 1).then("twinge", 1, 58, 1);
        // Of 58: 10 less 9, of 59: 9 less 10, of 60, 61: less 10, of 62: 10.
        r.due(58, "wedding", 58, 61);
        r.due(62, "wedding", 58, 62);
        r.due(59, "wedding", 59, 61);
    }
}
