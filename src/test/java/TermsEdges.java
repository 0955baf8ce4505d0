/** What a word of the document means wherever it is used: WET, ELBOW, CURED, AHEAD and BEHIND, VOTE, a LIE. */
final class TermsEdges {
    private static final int NONE = KneeBench.NONE;
    private static final String[] LAWS = {"most", "weights", "any", "all"};

    private TermsEdges() {
    }

    /** Farmers of all lags, one with an elbow, one that is cured; some lies, some weights. */
    private static Run mixed(String law, String elbow, String weather) {
        return Run.with("farmer a ahead 0 fails 3 false 4;farmer b ahead 2 fails 5 false 1" + elbow + ";"
                + "farmer c behind 1 fails 2 false 7;farmer e ahead 1 fails 6 false 2 cured 5;dislikes a c 3;weather " + weather
                + ";vote " + law + ";").then("lie", 0, 3).then("lie", 1, 2).then("lie", 2, 5).then("lie", 3, 0)
                .then("weigh", 0, 20).then("weigh", 2, 9);
    }

    static void promise27To65HailIsWetAsRainIs() {
        for (String law : LAWS) {
            Run rain = mixed(law, "", "drrdrddrdr");
            Run hail = mixed(law, "", "dhrdhddrdh");
            rain.tellsLike(hail, 4, "weather", "told");
            rain.due(5, "told", 2);
            hail.due(5, "told", 2);
            rain.due(0, "told", 3);
            hail.due(3, "told", 3);
        }
    }

    static void promise27To65WhereNoRainIsAnElbowIsAKnee() {
        for (String law : LAWS) {
            Run knee = mixed(law, "", "dhhdhddhdh");
            Run elbow = mixed(law, " elbow", "dhhdhddhdh");
            knee.tellsLike(elbow, 4, "farmer", "odds", "hay");
        }
    }

    static void promise27To65AnElbowTellsAsAllDo() {
        Run r = Run.with("farmer a ahead 0 fails 0 false 0 elbow;farmer b ahead 0 fails 0 false 0;weather rhdd;vote weights;")
                .then("weigh", 1, 10);
        r.row(6, "tells", new long[] {0}, 0, 1, 0, 0, NONE);
        r.row(6, "says", new long[0], 0, 1, 0, 0, NONE);
        r.row(6, "tips", new long[0], 1, 1, 1, 1, NONE);
        r.row(6, "flips", new long[0], 1, 1, 1, 1, NONE);
        r.row(6, "sure", new long[0], -54, 74, -74, -74, NONE);
        r.row(0, "believers", new long[0], 2, 3, 0, 0, 0);
        r.row(1, "agrees", new long[0], 4, 3, NONE);
        r.due(-1, "useful", 0);
        r.due(0, "useful", 1);
        r.row(1, "keptBy", new long[0], 3, 3, 4, 3, NONE);
        r.row(1, "lies", new long[0], 3, 1, NONE);
        r.due(1, "span", 0, 62);
        r.due(0, "wedding", 0, 1);
        r.due(2, "wedding", 0, 3);
        r.due(3, "kept");
        r.due(0, "nextWrong", 0);
        r.no(6, "nextWrong", 1);
        r.due(2, "bestLaw");
        r.due(1, "clashes", 0, 1);
        r.due(0, "silent");
        r.due(2, "fewest", 0);
        r.row(1, "toldBy", new long[0], 4, 4, NONE);
    }

    static void promise29To32AnElbowIsRightOfHailAlone() {
        Run r = Run.with("farmer a ahead 0 fails 0 false 0 elbow;farmer b ahead 0 fails 0 false 0;weather rhdr;");
        r.row(1, "right", new long[0], 4, 4, NONE);
        r.row(1, "streak", new long[0], 4, 4, NONE);
        r.then("lie", 0, 0).then("lie", 1, 1);
        r.row(1, "right", new long[0], 3, 3, NONE);
        r.row(1, "streak", new long[0], 3, 2, NONE);
        r.fraction(3, 4, "trust", 0);
        r.due(0, "truest");
        r.due(1, "learn", 0);
        r.due(32, "farmer", 0, 5);
        r.due(64, "farmer", 1, 5);
        r.due(1, "learn", 1);
        r.due(32, "farmer", 1, 5);
        r.due(0, "learn", 3);
        r.then("lie", 1, 1);
        r.due(1, "truest");
    }

    static void promise26And41And43AnElbowIsWrongOfRain() {
        Run r = Run.with("farmer a ahead 1 fails 0 false 0 elbow;weather drhrdh;");
        r.shoulds(0, "010010");
        r.felt(0, "010010");
        r.then("lie", 0, 0).then("lie", 0, 1).then("tray", 0, 1, 6);
        for (int d = 0; d < 6; d++) {
            r.ask("write", 0, d, 10 + d);
        }
        // Felt ahead of rain: it should not have been; and ahead of hail it felt nothing.
        r.row(1, "wrongs", new long[] {0}, 1, 1, NONE);
        r.due(1, "stairs", 0, 0, 10);
        r.due(0, "stairs", 0, 0, 11);
        r.then("lie", 0, 0).then("lie", 0, 1);
        r.due(5, "fits", 0, 1);
        r.due(1, "lag", 0);
        Run rain = Run.with("farmer a ahead 0 fails 0 false 0 elbow;weather rrrh;");
        rain.due(4, "fits", 0, 0);
        rain.then("lie", 0, 0).due(3, "fits", 0, 0);
    }

    static void promise41And42ACureDoesNotMatter() {
        Run r = Run.with(Run.knees(1) + "weather rdrd;").then("cure", 0, 2);
        r.due(4, "fits", 0, 0);
        r.due(0, "fits", 0, 1);
        r.due(0, "lag", 0);
        Run ahead = Run.with("farmer a ahead 1 fails 0 false 0;weather drddrrd;").then("cure", 0, 1);
        ahead.due(6, "fits", 0, 1);
        ahead.due(1, "lag", 0);
    }

    static void promise35And36NoElbows() {
        Run r = Run.with("farmer a ahead 0 fails 4 false 4 elbow;farmer b ahead 0 fails 4 false 4;weather rhd;");
        // By the knee alone, by its 12 of 16 and 4 of 16.
        r.fraction(3, 4, "odds", 0, 8);
        r.fraction(3, 4, "odds", 1, 8);
        r.fraction(1, 4, "odds", 2, 8);
        r.fraction(3, 64, "hay", 0, 3, 8);
        r.then("lie", 0, 0).then("lie", 0, 1).then("lie", 0, 2);
        r.fraction(3, 4, "odds", 0, 8);
        r.fraction(1, 4, "odds", 2, 8);
        r.then("cure", 1, 0);
        r.fraction(1, 2, "odds", 0, 8);
    }

    static void promise27To65OneThatIsCuredIsAsIfItWereNotThere() {
        for (String law : LAWS) {
            String two = "farmer a ahead 1 fails 3 false 4;farmer b behind 2 fails 5 false 1;";
            String rest = "weather drrdrddhdr;vote " + law + ";";
            Run without = Run.with(two + rest).then("lie", 0, 3).then("weigh", 1, 30);
            Run with = Run.with(two + "farmer c ahead 0 fails 2 false 2 cured 0;" + rest).then("lie", 0, 3).then("weigh", 1, 30)
                    .then("twinge", 2, 1, 1).then("twinge", 2, 3, 1).then("twinge", 2, 6, 1);
            without.tellsLike(with, 2, "told", "rival", "fever");
            with.due(3, "farmer", 2, 6);
            for (int d = 0; d < 10; d++) {
                Run.C.due("halved weights of " + d, with.ask("learn", d), without.ask("learn", d));
            }
            with.due(64, "farmer", 2, 5);
        }
    }

    /** What is told follows the lag, what was felt does not. */
    static void promise46To61TwingesAreOfTheDayOnWhichOneFelt() {
        Run r = Run.with("farmer a ahead 0 fails 0 false 0;farmer b ahead 3 fails 0 false 0;"
                + "farmer c ahead 0 fails 0 false 0 cured 0;weather dddd;").then("lie", 0, 3).then("lie", 1, 0).then("lie", 2, 3);
        r.due(1, "tells", 0, 3);
        r.due(1, "tells", 1, 3);
        r.no(6, "tells", 2, 3);
        r.due(0, "alike", 0, 1);
        r.due(1, "alike", 0, 2);
        r.due(2, "rival", 0);
        r.due(0, "rival", 1);
        r.due(0, "rival", 2);
        r.due(3, "fever");
        r.row(1, "quiet", new long[0], 3, 3, 3, NONE);
        r.row(6, "farmer", new long[] {1}, 3, 0, 0, 0, NONE, 64, 1);
        r.due(3, "believers", 3);
        r.due(0, "clashes", 0, 1);
        r.row(1, "wrongs", new long[] {1}, 1, 0, NONE);
    }

    static void promise20WhereItShouldByLagElbowAndCure() {
        // The seed 0 draws 6, 11, 8, 3, 5, 7.
        Run ahead = Run.with("farmer a ahead 1 fails 8 false 0;weather drdrd;");
        ahead.due(1, "feel", 0);
        ahead.felt(0, "00100");
        Run elbow = Run.with("farmer a ahead 0 fails 0 false 8 elbow;weather rhdr;");
        elbow.due(3, "feel", 0);
        elbow.felt(0, "1101");
        Run cured = Run.with("farmer a ahead 0 fails 16 false 12 cured 1;weather rrr;");
        cured.due(2, "feel", 0);
        cured.felt(0, "011");
        Run two = Run.with("farmer a ahead 1 fails 8 false 0;farmer b behind 1 fails 0 false 6;weather rrr;");
        two.due(4, "feel", 0);
        two.felt(0, "010");
        two.felt(1, "111");
    }

    static void promise58And68KeptByTheVoteThatIsTold() {
        int[] kept = {0, 1, 1, 0};
        for (int law = 0; law < 4; law++) {
            Run r = Run.with(Run.knees(2) + "weather r;vote " + LAWS[law] + ";").season("lie a on 0;").then("weigh", 0, 10);
            r.fraction(kept[law], 1, "mean", 0, 20);
            r.due(1, "kept");
            r.due(1, "live", 0);
            r.due(kept[law], "kept");
            r.row(1, "keptBy", new long[0], 0, 1, 1, 0, NONE);
            r.due(1, "bestLaw");
            r.due(kept[law], "span", 0, 62);
        }
    }

    static void promise52WhatKeptWouldBeIfOneToldNothing() {
        for (String law : LAWS) {
            Run r = mixed(law, " elbow", "drhdrrdhdr");
            long kept = r.ask("kept");
            for (int f = 0; f < 4; f++) {
                long without = r.copy().then("cure", f, 0).ask("kept");
                r.due(kept - without, "useful", f);
            }
        }
    }

    static void promise62EachLieThatCouldBe() {
        for (String law : LAWS) {
            Run r = mixed(law, " elbow", "drhdrrdhdr");
            long kept = r.ask("kept");
            int spoils = 0;
            int mends = 0;
            for (int f = 0; f < 4; f++) {
                for (int d = 0; d < 10; d++) {
                    long then = r.copy().then("lie", f, d).ask("kept");
                    spoils += then < kept ? 1 : 0;
                    mends += then > kept ? 1 : 0;
                }
            }
            r.row(1, "lies", new long[0], spoils, mends, NONE);
        }
    }

    static void promise62And63OfHail() {
        Run r = Run.with(Run.knees(1) + "weather hhr;").then("lie", 0, 1);
        r.row(1, "lies", new long[0], 2, 1, NONE);
        r.due(1, "nextWrong", 0);
        r.no(6, "nextWrong", 2);
        r.due(2, "kept");
    }
}
