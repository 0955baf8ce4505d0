/** What the document says of edges: promises 38 to 65, who sits, who is needed. */
final class NeededEdges {
    private static final int NONE = KneeBench.NONE;
    private static final int MOST = Integer.MAX_VALUE;
    private static final int LEAST = Integer.MIN_VALUE;

    private NeededEdges() {
    }

    private static void whatRange(String name, int most) {
        for (Run r : Run.states()) {
            r.range(1, name, 0, 0, most, 0);
        }
    }

    /** Farmers who felt just these days, of so many that were dry, rainy, hailed on. */
    private static Run felt(String weather, String... felt) {
        Run r = Run.with(Run.knees(felt.length) + (weather.isEmpty() ? "" : "weather " + weather + ";"));
        for (int f = 0; f < felt.length; f++) {
            for (int d = 0; d < weather.length(); d++) {
                if ((weather.charAt(d) == 'd') == (felt[f].charAt(d) == '1')) {
                    r.ask("lie", f, d);
                }
            }
        }
        return r;
    }

    // ---- seats

    static void promise38NobodyOneAndTwo() {
        new Run().no(6, "seats");
        Run.with("weather d;").no(6, "seats");
        Run one = Run.with(Run.knees(1));
        one.due(0, "seats");
        one.row(6, "seatAt", new long[0], 0, NONE);
        Run two = Run.with(Run.knees(2) + "dislikes b a 99;");
        two.due(99, "seats");
        two.row(6, "seatAt", new long[0], 0, 1, NONE);
    }

    private static String hating(String row, int much) {
        StringBuilder b = new StringBuilder(Run.knees(row.length()));
        for (char c = 'a'; c < 'a' + row.length(); c++) {
            for (char d = 'a'; d < c; d++) {
                if (Math.abs(row.indexOf(c) - row.indexOf(d)) > 1) {
                    b.append("dislikes ").append(c).append(' ').append(d).append(' ').append(much).append(';');
                }
            }
        }
        return b.toString();
    }

    static void promise38TheLeastOfAllRows() {
        for (String row : new String[] {"abc", "acb", "bac", "bcad", "adbc", "cadbe", "hgfedcba", "aceghfdb", "dcbahgfe"}) {
            Run r = Run.with(hating(row, 1));
            r.due(0, "seats");
            // The row and that row turned round cost as much: the first by numbers is due.
            String turned = new StringBuilder(row).reverse().toString();
            String first = row.compareTo(turned) < 0 ? row : turned;
            r.row(6, "seatAt", new long[0], first.chars().mapToLong(c -> c - 'a').toArray());
            r.no(6, "seatAt", row.length());
        }
    }

    static void promise38OfSeveralRowsTheFirst() {
        for (int many = 1; many <= 8; many++) {
            Run r = Run.with(Run.knees(many));
            r.due(0, "seats");
            long[] want = new long[many];
            for (int k = 0; k < many; k++) {
                want[k] = k;
            }
            r.row(6, "seatAt", new long[0], want);
            r.no(6, "seatAt", many);
        }
        StringBuilder all = new StringBuilder(Run.knees(8));
        for (char c = 'a'; c < 'i'; c++) {
            for (char d = 'a'; d < c; d++) {
                all.append("dislikes ").append(c).append(' ').append(d).append(" 99;");
            }
        }
        Run r = Run.with(all.toString());
        r.due(693, "seats");
        r.row(6, "seatAt", new long[0], 0, 1, 2, 3, 4, 5, 6, 7);
        Run one = Run.with(Run.knees(4) + "dislikes a b 1;");
        one.due(0, "seats");
        one.row(6, "seatAt", new long[0], 0, 2, 1, 3, NONE);
        Run last = Run.with(Run.knees(4) + "dislikes c d 1;");
        last.due(0, "seats");
        last.row(6, "seatAt", new long[0], 0, 2, 1, 3, NONE);
        Run middle = Run.with(Run.knees(3) + "dislikes a b 5;dislikes b c 5;dislikes a c 6;");
        middle.due(10, "seats");
        middle.row(6, "seatAt", new long[0], 0, 1, 2, NONE);
    }

    static void promise39Ranges() {
        Run r = Run.with(Run.knees(3));
        r.range(6, "seatAt", 0, 0, -1, 0);
        r.ask("seats");
        r.range(6, "seatAt", 0, 0, 2, 0);
        new Run().range(6, "seatAt", 0, 0, -1, 0);
        Run.full().range(6, "seatAt", 0, 0, 7, 0);
    }

    static void promise39BySeatsLatestWithStatus0() {
        Run r = Run.with(Run.knees(3) + "dislikes a b 9;");
        r.due(0, "seats");
        r.row(6, "seatAt", new long[0], 0, 2, 1, NONE);
        r.taken(2, "bench", Run.knees(2));
        r.row(6, "seatAt", new long[0], 0, 2, 1, NONE);
        r.taken(0, "bench", "");
        r.no(6, "seats");
        r.ask("seats");
        r.row(6, "seatAt", new long[0], 0, 2, 1, NONE);
        r.taken(1, "bench", Run.knees(1));
        r.due(0, "seats");
        r.row(6, "seatAt", new long[0], 0, NONE, NONE);
        r.then("mark").then("back");
        r.row(6, "seatAt", new long[0], 0, NONE, NONE);
    }

    // ---- fewest knees

    static void promise40Ranges() {
        for (Run r : Run.states()) {
            r.range(1, "fewest", 0, 0, 60, 0);
        }
    }

    static void promise40NoDayIsWet() {
        new Run().due(0, "fewest", 0);
        new Run().due(0, "fewest", 60);
        felt("ddd", "111", "000").due(0, "fewest", 0);
        felt("d".repeat(60), "1".repeat(60)).due(0, "fewest", 0);
        Run.with(Run.knees(8)).due(0, "fewest", 0);
        Run elbow = Run.with("farmer a ahead 3 fails 0 false 0;weather ddd;").then("twinge", 0, 2, 1);
        elbow.due(0, "fewest", 0);
    }

    static void promise40NoSetDoes() {
        Run.with("weather r;").no(6, "fewest", 60);
        felt("rr", "10", "10").no(6, "fewest", 60);
        Run.with("farmer a behind 1 fails 0 false 0;weather rr;").no(6, "fewest", 60);
        Run.with("farmer a ahead 1 fails 0 false 0;weather rr;").no(6, "fewest", 60);
        Run.with("farmer a ahead 1 fails 0 false 0;weather dr;").due(1, "fewest", 0);
        Run.with("farmer a ahead 0 fails 0 false 0 elbow;weather rh;").no(6, "fewest", 60);
        Run.with("farmer a ahead 0 fails 0 false 0 elbow;weather dh;").due(1, "fewest", 0);
        Run cured = felt("rr", "11").then("cure", 0, 1);
        cured.no(6, "fewest", 60);
        cured.then("cure", 0, 2).due(1, "fewest", 0);
    }

    static void promise40WhatIsDueFirst() {
        Run r = Run.with("weather r;");
        r.no(1, "fewest", -1);
        r.no(6, "fewest", 0);
        r.no(6, "fewest", 60);
        r.no(1, "fewest", 61);
    }

    static void promise50And54WhatIsDueFirst() {
        Run r = Run.with(Run.knees(1));
        for (String name : new String[] {"rival", "foe"}) {
            r.no(1, name, -1);
            r.no(6, name, 0);
            r.no(1, name, 1);
        }
    }

    static void promise63WhatIsDueFirst() {
        for (Run r : new Run[] {new Run(), felt("rr", "11")}) {
            r.no(1, "nextWrong", -1);
            r.no(6, "nextWrong", 0);
            r.no(6, "nextWrong", 2);
            r.no(6, "nextWrong", 59);
            r.no(1, "nextWrong", 60);
        }
    }

    static void promise40OnNoMoreThanSoManyDays() {
        Run r = felt("rddd", "1111", "1110", "1100");
        r.no(6, "fewest", 0);
        r.due(4, "fewest", 1);
        r.due(2, "fewest", 2);
        r.due(1, "fewest", 3);
        r.due(1, "fewest", 60);
        // Days on which two of a set are wrong count once; several days count each.
        Run two = felt("rrdd", "1011", "0111");
        two.no(6, "fewest", 1);
        two.due(3, "fewest", 2);
        two = felt("rrdd", "1010", "0101");
        two.no(6, "fewest", 1);
        two.due(3, "fewest", 2);
        Run most = felt("r" + "d".repeat(59), "1".repeat(60));
        most.no(6, "fewest", 58);
        most.due(1, "fewest", 59);
    }

    static void promise40TheLeastByHowManyThenAsANumber() {
        felt("rr", "11", "11", "11").due(1, "fewest", 0);
        felt("rr", "10", "01", "11").due(4, "fewest", 0);
        felt("rrr", "100", "010", "001", "110", "011").due(12, "fewest", 0);
        felt("rrr", "100", "110", "011", "001").due(5, "fewest", 0);
        felt("rrr", "110", "011", "100", "001").due(3, "fewest", 0);
        felt("rrrrrrrr", "10000000", "01000000", "00100000", "00010000", "00001000", "00000100", "00000010", "00000001")
                .due(255, "fewest", 0);
        felt("r", "0", "0", "0", "0", "0", "0", "0", "1").due(128, "fewest", 0);
    }

    static void promise40DaysThatAreNotThereDoNotCount() {
        Run r = Run.with("farmer a ahead 3 fails 0 false 0;weather dddr;").then("twinge", 0, 3, 1).then("twinge", 0, 2, 1)
                .then("twinge", 0, 1, 1);
        r.due(1, "fewest", 0);
        r = Run.with("farmer a ahead 3 fails 0 false 0;weather dddrd;").then("twinge", 0, 1, 1);
        r.no(6, "fewest", 0);
        r.due(1, "fewest", 1);
    }

    // ---- found lag

    static void promise41Ranges() {
        Run.farmerRange("lag", 0);
    }

    static void promise41EachLagIsFound() {
        String weather = "rddrrdddrdrrrdd";
        for (int lag = -3; lag <= 3; lag++) {
            StringBuilder felt = new StringBuilder();
            for (int d = 0; d < weather.length(); d++) {
                int other = d + lag;
                felt.append(other >= 0 && other < weather.length() && weather.charAt(other) == 'r' ? 1 : 0);
            }
            Run r = felt(weather, felt.toString());
            r.due(lag, "lag", 0);
            r.due(weather.length() - Math.abs(lag), "fits", 0, lag);
        }
    }

    static void promise41OfSeveralTheNearestTo0() {
        Run.with(Run.knees(1)).due(0, "lag", 0);
        felt("d", "0").due(0, "lag", 0);
        felt("d", "1").due(0, "lag", 0);
        // By -1 and 1 as many, by 0 none: the one below 0.
        Run r = felt("drdr", "1010");
        r.row(1, "fits", new long[] {0}, 0, 3, 0, 1, NONE);
        r.due(3, "fits", 0, -1);
        r.due(-1, "lag", 0);
        // By -2 and 2 the most.
        r = felt("ddrrddrr", "11001100");
        r.due(6, "fits", 0, -2);
        r.due(6, "fits", 0, 2);
        r.due(0, "fits", 0, 0);
        r.due(-2, "lag", 0);
        // By 1 and -3 alike: the nearer one, above 0.
        r = felt("drddrdrd", "10010100");
        r.due(7, "fits", 0, 1);
        r.due(1, "lag", 0);
        // By -3 and 3 the most, of which the one below 0.
        r = felt("dddrrrddd", "111000111");
        r.due(0, "fits", 0, 0);
        r.due(6, "fits", 0, -3);
        r.due(6, "fits", 0, 3);
        r.due(-3, "lag", 0);
        // By 0 and 1, by 0 and -1 as many.
        felt("rrd", "110").due(0, "lag", 0);
        r = felt("rrd", "100");
        r.due(2, "fits", 0, 0);
        r.due(2, "fits", 0, 1);
        r.due(0, "lag", 0);
    }

    /** Twinges that follow the weather by so many days, beyond what a lag can be. */
    static void promise41NoLagBeyond3() {
        String weather = "rddrrdddrdrrrddrrrdrdddd";
        for (int beyond : new int[] {-5, -4, 4, 5}) {
            StringBuilder felt = new StringBuilder();
            for (int d = 0; d < weather.length(); d++) {
                int other = d + beyond;
                felt.append(other >= 0 && other < weather.length() && weather.charAt(other) == 'r' ? 1 : 0);
            }
            int best = 0;
            for (int lag : new int[] {0, -1, 1, -2, 2, -3, 3}) {
                best = fitting(weather, felt, lag) > fitting(weather, felt, best) ? lag : best;
            }
            Run r = felt(weather, felt.toString());
            r.due(best, "lag", 0);
            for (int lag = -3; lag <= 3; lag++) {
                r.due(fitting(weather, felt, lag), "fits", 0, lag);
            }
            r.no(1, "fits", 0, beyond);
        }
    }

    private static int fitting(String weather, CharSequence felt, int lag) {
        int many = 0;
        for (int d = 0; d < weather.length(); d++) {
            int other = d + lag;
            if (other >= 0 && other < weather.length() && (weather.charAt(other) == 'r') == (felt.charAt(d) == '1')) {
                many++;
            }
        }
        return many;
    }

    static void promise42Ranges() {
        Run.farmerRange("fits", 0, 0);
        Run.some().range(1, "fits", 1, -3, 3, 0, 0);
        Run.full().range(1, "fits", 1, -3, 3, 7, 0);
        Run.with(Run.knees(1)).range(1, "fits", 1, -3, 3, 0, 0);
        new Run().no(1, "fits", 0, 4);
    }

    static void promise42ADayWhoseDayIsNotThereDoesNotCount() {
        int[] days = {0, 1, 2, 3, 4, 59, 60};
        for (int many : days) {
            Run r = felt("d".repeat(many), "0".repeat(many));
            Run not = felt("d".repeat(many), "1".repeat(many));
            for (int lag = -3; lag <= 3; lag++) {
                r.due(Math.max(0, many - Math.abs(lag)), "fits", 0, lag);
                not.due(0, "fits", 0, lag);
            }
        }
        Run wet = felt("r".repeat(60), "1".repeat(60));
        wet.due(57, "fits", 0, 3);
        wet.due(57, "fits", 0, -3);
        wet.due(60, "fits", 0, 0);
    }

    // ---- stairs

    private static Run climbing(int many) {
        Run r = felt("d".repeat(many), "1".repeat(many));
        r.ask("tray", 0, 1, many);
        return r;
    }

    static void promise43Ranges() {
        Run r = climbing(3);
        r.range(1, "stairs", 0, 0, 0, 0, 0, 1);
        r.then("tray", 1, 1, 3).then("tray", 2, 1, 3).then("tray", 3, 1, 3).range(1, "stairs", 1, 0, 3, 0, 0, 1);
        r.range(1, "stairs", 2, 1, 999, 0, 0, 1);
        Run.full().then("tray", 0, 0, 60).range(1, "stairs", 2, 1, 999, 7, 0, 1);
    }

    static void promise43WhatIsDueFirst() {
        Run r = felt("ddd", "111");
        r.no(1, "stairs", 1, 4, 0);
        r.no(1, "stairs", 1, 0, 1);
        r.no(1, "stairs", 0, 0, 0);
        r.no(1, "stairs", 0, 0, 1000);
        r.no(2, "stairs", 0, 0, 1);
        r.then("tray", 0, 3, 2).then("write", 0, 0, -1);
        r.no(1, "stairs", 0, 0, 1000);
        r.no(3, "stairs", 0, 0, 1);
        r.then("tray", 0, 3, 3).then("write", 0, 0, -1);
        r.no(1, "stairs", 0, 0, 1000);
        r.no(5, "stairs", 0, 0, 1);
        r.then("write", 0, 0, 0);
        r.due(0, "stairs", 0, 0, 1);
    }

    static void promise43TooFewNumbers() {
        for (int days : new int[] {0, 1, 59, 60}) {
            Run r = climbing(days);
            r.due(0, "stairs", 0, 0, 1);
            if (days > 0) {
                r.ask("tray", 0, 1, days - 1);
                r.no(3, "stairs", 0, 0, 1);
                r.ask("tray", 0, 1, 0);
                r.no(3, "stairs", 0, 0, 1);
            }
            if (days < 60) {
                r.ask("tray", 0, 1, days + 1);
                r.due(0, "stairs", 0, 0, 1);
                r.ask("tray", 0, 1, 60);
                r.due(0, "stairs", 0, 0, 1);
            }
        }
    }

    static void promise43ANumberThatCantBe() {
        for (int place : new int[] {0, 1, 2}) {
            for (long bad : new long[] {-1, 1000, Long.MIN_VALUE, Long.MAX_VALUE, 1L << 32}) {
                Run r = climbing(3).then("tray", 0, 3, 3).then("write", 0, place, bad);
                r.no(5, "stairs", 0, 0, 1);
                r.no(5, "stairs", 0, 0, 999);
            }
            for (int good : new int[] {0, 999}) {
                Run r = climbing(3).then("write", 0, place, good);
                r.due(good == 0 ? 0 : 1, "stairs", 0, 0, 1);
            }
        }
        Run dry = Run.with(Run.knees(1) + "weather d;").then("tray", 0, 3, 1).then("write", 0, 0, 1000);
        dry.no(5, "stairs", 0, 0, 1);
    }

    static void promise43SoManyStairsOrMore() {
        Run r = climbing(5);
        int[] climbed = {0, 1, 500, 998, 999};
        for (int d = 0; d < 5; d++) {
            r.ask("write", 0, d, climbed[d]);
        }
        r.due(4, "stairs", 0, 0, 1);
        r.due(3, "stairs", 0, 0, 2);
        r.due(3, "stairs", 0, 0, 500);
        r.due(2, "stairs", 0, 0, 501);
        r.due(2, "stairs", 0, 0, 998);
        r.due(1, "stairs", 0, 0, 999);
    }

    static void promise43TwingesThatItShouldNotHaveFelt() {
        Run r = felt("rrdd", "1010").then("tray", 0, 1, 4);
        for (int d = 0; d < 4; d++) {
            r.ask("write", 0, d, 9);
        }
        r.due(1, "stairs", 0, 0, 9);
        r.then("cure", 0, 0);
        r.due(2, "stairs", 0, 0, 9);
        Run all = felt("d".repeat(60), "1".repeat(60)).then("tray", 3, 1, 60);
        for (int d = 0; d < 60; d++) {
            all.ask("write", 3, d, 999);
        }
        all.due(60, "stairs", 0, 3, 999);
    }

    static void promise43NumbersForDaysThatAreNotThere() {
        Run r = climbing(3).then("tray", 0, 3, 4).then("write", 0, 2, 5);
        for (long beyond : new long[] {-1, 0, 999, 1000}) {
            r.then("write", 0, 3, beyond).due(1, "stairs", 0, 0, 5);
        }
    }

    // ---- rows of days

    static void promise44Ranges() {
        whatRange("spell", 1);
    }

    private static void spells(String weather, int dry, int wet) {
        Run.with(weather.isEmpty() ? "" : "weather " + weather + ";").row(1, "spell", new long[0], dry, wet, NONE);
    }

    static void promise44DryAndWet() {
        spells("", 0, 0);
        spells("d", 1, 0);
        spells("r", 0, 1);
        spells("h", 0, 1);
        spells("d".repeat(60), 60, 0);
        spells("rh".repeat(30), 0, 60);
        spells("drhdd", 2, 2);
        spells("ddrhr", 2, 3);
        spells("rd".repeat(30), 1, 1);
        spells("d" + "r".repeat(58) + "d", 1, 58);
        spells("d".repeat(29) + "r" + "d".repeat(30), 30, 1);
    }

    static void promise51Ranges() {
        Run.farmerRange("quiet", 0);
    }

    static void promise51TheLongestRowWithoutATwinge() {
        felt("", "").due(0, "quiet", 0);
        felt("d", "0").due(1, "quiet", 0);
        felt("d", "1").due(0, "quiet", 0);
        felt("dddddd", "001000").due(3, "quiet", 0);
        felt("dddddd", "000100").due(3, "quiet", 0);
        felt("dddddd", "100001").due(4, "quiet", 0);
        felt("rrrrrr", "010101").due(1, "quiet", 0);
        felt("d".repeat(60), "0".repeat(60)).due(60, "quiet", 0);
        felt("d".repeat(60), "1".repeat(60)).due(0, "quiet", 0);
        Run.with("farmer a ahead 0 fails 0 false 0 cured 0;weather rr;").due(2, "quiet", 0);
    }

    static void promise59Ranges() {
        Run.farmerRange("streak", 0);
    }

    static void promise59TheLongestRowToldAndRight() {
        felt("", "").due(0, "streak", 0);
        felt("d", "0").due(1, "streak", 0);
        felt("d", "1").due(0, "streak", 0);
        felt("rdhdrd", "101010").due(6, "streak", 0);
        felt("dddddd", "010000").due(4, "streak", 0);
        felt("dddddd", "000010").due(4, "streak", 0);
        felt("dddddd", "111111").due(0, "streak", 0);
        felt("d".repeat(60), "0".repeat(60)).due(60, "streak", 0);
        felt("dddddd", "000000").then("cure", 0, 3).due(3, "streak", 0);
        felt("dddddd", "000000").then("cure", 0, 0).due(0, "streak", 0);
        Run.with("farmer a ahead 3 fails 0 false 0;weather dddddd;").due(3, "streak", 0);
        Run.with("farmer a behind 3 fails 0 false 0;weather dddddd;").due(3, "streak", 0);
        Run.with("farmer a ahead 3 fails 0 false 0;weather ddd;").due(0, "streak", 0);
        Run.with("farmer a ahead 0 fails 0 false 0 elbow;weather rrhd;").due(4, "streak", 0);
    }

    // ---- sets and couples

    static void promise45Ranges() {
        Run.toldDayRange("believers");
    }

    static void promise45NobodyAndAll() {
        new Run().due(0, "believers", 62);
        felt("r", "1", "1", "1", "1", "1", "1", "1", "1").due(255, "believers", 0);
        felt("r", "0", "0", "0", "0", "0", "0", "0", "1").due(128, "believers", 0);
        felt("r", "1", "1").due(0, "believers", 1);
        Run late = Run.with("farmer a ahead 3 fails 0 false 0;weather " + "d".repeat(60) + ";").then("twinge", 0, 59, 1);
        late.due(1, "believers", 62);
        late.due(0, "believers", 61);
        late.then("cure", 0, 59).due(0, "believers", 62);
    }

    private static void couples(String name) {
        for (Run r : new Run[] {Run.some(), Run.full(), Run.with(Run.knees(2))}) {
            r.range(1, name, 0, 1, r.farmers() - 1, 1, 0);
            r.range(1, name, 1, 1, r.farmers() - 1, 0, 1);
            for (int f = 0; f < r.farmers(); f++) {
                r.no(1, name, f, f);
            }
        }
        Run.with(Run.knees(1)).no(1, name, 0, 0);
        Run.with(Run.knees(1)).no(1, name, 0, 1);
        new Run().no(1, name, 0, 1);
        new Run().no(1, name, -1, -1);
        new Run().no(1, name, LEAST, MOST);
        Run.some().no(1, name, MOST, 0);
        Run.some().no(1, name, -1, 0);
        Run.some().no(1, name, LEAST, 0);
    }

    static void promise46Ranges() {
        couples("alike");
    }

    static void promise46TwingesOnTheSameDays() {
        felt("", "", "").due(0, "alike", 0, 1);
        felt("ddd", "000", "000").due(0, "alike", 0, 1);
        felt("ddd", "110", "011").due(1, "alike", 1, 0);
        felt("ddd", "100", "011").due(0, "alike", 0, 1);
        felt("d".repeat(60), "1".repeat(60), "1".repeat(60)).due(60, "alike", 0, 1);
        felt("ddd", "111", "111").then("cure", 0, 0).due(3, "alike", 0, 1);
    }

    static void promise60Ranges() {
        couples("clashes");
    }

    static void promise60OfDaysThatBothTellOf() {
        felt("", "", "").due(0, "clashes", 0, 1);
        felt("ddd", "111", "111").due(0, "clashes", 0, 1);
        felt("ddd", "110", "011").due(2, "clashes", 0, 1);
        felt("ddd", "111", "000").due(3, "clashes", 1, 0);
        felt("d".repeat(60), "1".repeat(60), "0".repeat(60)).due(60, "clashes", 0, 1);
        Run cured = felt("ddd", "111", "000").then("cure", 0, 2);
        cured.due(2, "clashes", 0, 1);
        cured.due(2, "clashes", 1, 0);
        cured.then("cure", 0, 0).due(0, "clashes", 0, 1);
        Run apart = Run.with("farmer a ahead 3 fails 0 false 0;farmer b behind 3 fails 0 false 0;weather "
                + "d".repeat(6) + ";").then("twinge", 0, 0, 1).then("twinge", 0, 1, 1).then("twinge", 0, 2, 1);
        apart.due(0, "clashes", 0, 1);
        apart.ask("day", 0);
        apart.due(1, "clashes", 0, 1);
        // Of a day that is not there both tell, but it does not count.
        Run beyond = Run.with("farmer a ahead 1 fails 0 false 0;farmer b ahead 2 fails 0 false 0;weather ddd;")
                .then("twinge", 0, 2, 1);
        beyond.due(1, "tells", 0, 3);
        beyond.due(0, "tells", 1, 3);
        beyond.due(0, "clashes", 0, 1);
    }

    static void promise47Ranges() {
        Run.farmerRange("toldBy", 0);
    }

    static void promise47OfDaysThatAreThere() {
        String[] lags = {"ahead 0", "ahead 1", "ahead 2", "ahead 3", "behind 1", "behind 2", "behind 3"};
        int[] less = {0, 1, 2, 3, 1, 2, 3};
        for (int i = 0; i < lags.length; i++) {
            for (int days : new int[] {0, 1, 2, 3, 4, 59, 60}) {
                String weather = days == 0 ? "" : "weather " + "d".repeat(days) + ";";
                Run r = Run.with("farmer a " + lags[i] + " fails 0 false 0;" + weather);
                r.due(Math.max(0, days - less[i]), "toldBy", 0);
                r.then("cure", 0, 0).due(0, "toldBy", 0);
            }
        }
        Run.with("farmer a ahead 1 fails 0 false 0 cured 2;weather dddd;").due(2, "toldBy", 0);
        Run.with("farmer a ahead 3 fails 0 false 0 cured 2;weather dddd;").due(1, "toldBy", 0);
        Run.with("farmer a behind 1 fails 0 false 0 cured 2;weather dddd;").due(1, "toldBy", 0);
    }

    // ---- flips, span

    static void promise48Ranges() {
        Run.toldDayRange("flips");
    }

    static void promise48OfADayThatIsNotThere() {
        Run r = Run.with("farmer a ahead 3 fails 0 false 0;weather " + "d".repeat(60) + ";");
        r.due(1, "flips", 62);
        r.no(6, "flips", 0);
        r.no(6, "flips", 2);
        r.due(1, "flips", 3);
        new Run().no(6, "flips", 62);
        new Run().no(1, "flips", 63);
    }

    static void promise49Ranges() {
        for (Run r : Run.states()) {
            r.range(1, "span", 0, 0, 62, 0, 62);
            r.range(1, "span", 0, 0, 5, 0, 5);
            r.range(1, "span", 1, 0, 62, 0, 0);
            r.range(1, "span", 1, 62, 62, 62, 62);
            r.range(1, "span", 1, 5, 62, 5, 5);
            r.no(1, "span", 63, 63);
            r.no(1, "span", -1, -1);
        }
    }

    static void promise49OfHowManyItSaysRain() {
        new Run().due(0, "span", 0, 62);
        Run r = felt("r".repeat(60), "1".repeat(60));
        r.due(60, "span", 0, 62);
        r.due(60, "span", 0, 59);
        r.due(1, "span", 59, 62);
        r.due(0, "span", 60, 62);
        r.due(1, "span", 0, 0);
        r.due(2, "span", 58, 59);
        Run late = Run.with("farmer a ahead 3 fails 0 false 0;weather " + "d".repeat(60) + ";").then("twinge", 0, 59, 1)
                .then("twinge", 0, 57, 1);
        late.due(2, "span", 0, 62);
        late.due(1, "span", 0, 61);
        late.due(0, "span", 0, 59);
        late.due(1, "span", 62, 62);
        late.due(0, "span", 61, 61);
    }

    // ---- rival, useful, mood, foe

    static void promise50Ranges() {
        Run.farmerRange("rival", 0);
    }

    static void promise50NoOtherOne() {
        Run one = felt("rr", "11");
        one.no(6, "rival", 0);
        one.no(1, "rival", 1);
        Run.with(Run.knees(1)).no(6, "rival", 0);
        Run two = felt("rr", "11", "00");
        two.due(1, "rival", 0);
        two.due(0, "rival", 1);
    }

    static void promise50OfSeveralTheFirst() {
        Run none = felt("dd", "00", "00", "00");
        none.row(1, "rival", new long[0], 1, 0, 0, NONE);
        Run r = felt("dddd", "1111", "1100", "0011", "0111");
        r.row(1, "rival", new long[0], 3, 0, 0, 0, NONE);
        r.ask("lie", 0, 3);
        r.row(1, "rival", new long[0], 1, 0, 3, 0, NONE);
        Run eight = felt("d", "0", "0", "0", "0", "0", "0", "1", "1");
        eight.row(1, "rival", new long[0], 1, 0, 0, 0, 0, 0, 7, 6);
    }

    static void promise52Ranges() {
        Run.farmerRange("useful", 0);
    }

    static void promise52StatusTellsNoneFromMinus1() {
        Run r = Run.with(Run.knees(2) + "vote any;weather dd;").then("twinge", 0, 1, 1);
        r.due(-1, "useful", 0);
        r.due(0, "useful", 1);
        r.no(1, "useful", 2);
    }

    static void promise52NothingAndAll() {
        Run.with(Run.knees(1)).due(0, "useful", 0);
        felt("d".repeat(60), "0".repeat(60)).due(60, "useful", 0);
        felt("d".repeat(60), "1".repeat(60)).due(0, "useful", 0);
        felt("rr", "11", "11").row(1, "useful", new long[0], 0, 0, NONE);
        // By most, two against one: without one of the two nobody is more, and it is dry.
        felt("rr", "11", "11", "00").row(1, "useful", new long[0], 2, 2, 0, NONE);
        Run any = Run.with(Run.knees(2) + "vote any;weather " + "d".repeat(60) + ";");
        for (int d = 0; d < 60; d++) {
            any.ask("lie", 1, d);
        }
        any.due(-60, "useful", 1);
        any.due(0, "useful", 0);
    }

    static void promise53Ranges() {
        Run.farmerRange("mood", 0);
    }

    static void promise53AllItsDislikes() {
        Run.with(Run.knees(1)).due(0, "mood", 0);
        Run.with(Run.knees(8)).row(1, "mood", new long[0], 0, 0, 0, 0, 0, 0, 0, 0, NONE);
        StringBuilder b = new StringBuilder(Run.knees(8));
        for (char c = 'b'; c < 'i'; c++) {
            b.append("dislikes ").append(c).append(" a 99;");
        }
        Run r = Run.with(b.toString());
        r.row(1, "mood", new long[0], 693, 99, 99, 99, 99, 99, 99, 99, NONE);
        r.due(1, "foe", 0);
        r.due(0, "foe", 7);
    }

    static void promise54Ranges() {
        Run.farmerRange("foe", 0);
    }

    static void promise54NobodyAndOfSeveralTheFirst() {
        Run.with(Run.knees(1)).no(6, "foe", 0);
        Run.with(Run.knees(8)).no(6, "foe", 7);
        Run r = Run.with(Run.knees(4) + "dislikes a b 0;dislikes b c 1;dislikes b d 1;dislikes c d 2;");
        r.no(6, "foe", 0);
        r.row(6, "foe", new long[0], NONE, 2, 3, 2);
        r.no(1, "foe", 4);
        Run.with(Run.knees(2) + "dislikes b a 1;").row(1, "foe", new long[0], 1, 0, NONE);
        Run.with(Run.knees(2) + "dislikes b a 1;dislikes a b 0;").no(6, "foe", 0);
    }

    // ---- silent, sure, laws

    static void promise55OfHowManyDaysNobodyTells() {
        new Run().due(0, "silent");
        Run.with("weather d;").due(1, "silent");
        Run.with("weather " + "r".repeat(60) + ";").due(60, "silent");
        felt("rr", "11").due(0, "silent");
        felt("r".repeat(60), "1".repeat(60)).due(0, "silent");
        felt("rr", "11").then("cure", 0, 0).due(2, "silent");
        felt("rr", "11").then("cure", 0, 1).due(1, "silent");
        Run.with("farmer a ahead 3 fails 0 false 0;weather dddd;").due(3, "silent");
        Run.with("farmer a behind 3 fails 0 false 0;weather dddd;").due(3, "silent");
        Run.with("farmer a ahead 3 fails 0 false 0;farmer b behind 3 fails 0 false 0;weather ddddd;").due(1, "silent");
        Run.with("farmer a ahead 3 fails 0 false 0;farmer b behind 3 fails 0 false 0;weather dddddd;").due(0, "silent");
        Run.with("farmer a ahead 3 fails 0 false 0;weather dd;").due(2, "silent");
    }

    static void promise56Ranges() {
        Run.toldDayRange("sure");
    }

    static void promise56StatusTellsNoneFromMinus1() {
        Run r = felt("dd", "01", "10").then("weigh", 0, 2).then("weigh", 1, 1);
        r.due(-1, "sure", 0);
        r.due(1, "sure", 1);
        r.no(6, "sure", 2);
        r.no(6, "sure", 62);
        r.no(1, "sure", 63);
        Run late = Run.with("farmer a ahead 3 fails 0 false 0;weather " + "d".repeat(60) + ";");
        late.due(-64, "sure", 62);
        late.no(6, "sure", 2);
    }

    static void promise57NothingAndTies() {
        new Run().due(0, "bestLaw");
        Run.with(Run.knees(8)).due(0, "bestLaw");
        felt("rd", "10", "10").due(0, "bestLaw");
        // Rain told by one of two: any is right of rain, the others of dry.
        felt("rr", "11", "00").due(2, "bestLaw");
        felt("dd", "11", "00").due(0, "bestLaw");
        felt("dd", "11", "11", "00").due(3, "bestLaw");
        felt("dd", "11", "11", "00").then("weigh", 2, 64).then("weigh", 0, 1).then("weigh", 1, 1).due(1, "bestLaw");
        felt("rd", "11", "00").due(0, "bestLaw");
    }

    static void promise58Ranges() {
        whatRange("keptBy", 3);
    }

    static void promise58AsIfVoteWereSuch() {
        Run r = Run.with(Run.knees(2) + "vote all;weather rrrd;").then("lie", 0, 0).then("lie", 1, 0).then("lie", 1, 1);
        r.row(1, "keptBy", new long[0], 2, 2, 3, 2, NONE);
        r.due(2, "kept");
        r.due(3, "told", 4);
        felt("r".repeat(60), "1".repeat(60)).row(1, "keptBy", new long[0], 60, 60, 60, 60, NONE);
        new Run().row(1, "keptBy", new long[0], 0, 0, 0, 0, NONE);
    }

    // ---- fever, lies, next wrong, warned, agrees

    static void promise61NoDaysAndOfSeveralTheFirst() {
        new Run().no(6, "fever");
        Run.with(Run.knees(8)).no(6, "fever");
        Run.with("weather rr;").due(0, "fever");
        felt("dd", "00").due(0, "fever");
        felt("ddd", "011", "011").due(1, "fever");
        felt("ddd", "111", "010", "001").due(1, "fever");
        felt("ddd", "111", "001", "001").due(2, "fever");
        felt("d".repeat(60), "0".repeat(59) + "1").due(59, "fever");
        felt("ddd", "001").then("cure", 0, 0).due(2, "fever");
    }

    static void promise62Ranges() {
        whatRange("lies", 1);
    }

    private static void lies(Run r, int spoils, int mends) {
        r.row(1, "lies", new long[0], spoils, mends, NONE);
    }

    static void promise62SpoilsAndMends() {
        lies(new Run(), 0, 0);
        lies(Run.with(Run.knees(8)), 0, 0);
        lies(Run.with("weather rr;"), 0, 0);
        lies(felt("d".repeat(60), "0".repeat(60)), 60, 0);
        lies(felt("d".repeat(60), "1".repeat(60)), 0, 60);
        lies(felt("dd", "01"), 1, 1);
        // Two alike by most: one lie makes rain a tie, and leaves dry as it is.
        lies(felt("rd", "10", "10"), 2, 0);
        lies(felt("dr", "10", "10"), 0, 2);
        lies(felt("rrr", "111", "111", "111"), 0, 0);
        lies(felt("rrr", "111", "111", "000"), 6, 0);
    }

    static void promise62LiesThatReachNoDayThatIsThere() {
        // What is felt on the last day is told of a day that is not there.
        lies(Run.with("farmer a ahead 1 fails 0 false 0;weather dd;"), 1, 0);
        lies(Run.with("farmer a behind 1 fails 0 false 0;weather dd;"), 1, 0);
        lies(Run.with("farmer a ahead 3 fails 0 false 0;weather ddd;"), 0, 0);
        lies(Run.with("farmer a ahead 3 fails 0 false 0;weather dddd;"), 1, 0);
        lies(felt("dd", "00").then("cure", 0, 1), 1, 0);
        lies(felt("dd", "00").then("cure", 0, 0), 0, 0);
    }

    static void promise63Ranges() {
        for (Run r : Run.states()) {
            r.range(1, "nextWrong", 0, 0, 59, 0);
        }
    }

    static void promise63FromOneOn() {
        new Run().no(6, "nextWrong", 0);
        new Run().no(6, "nextWrong", 59);
        Run.with("weather rrr;").no(6, "nextWrong", 0);
        Run r = felt("rrr", "101");
        r.row(6, "nextWrong", new long[0], 1, 1, NONE, NONE);
        r.no(6, "nextWrong", 3);
        Run dry = felt("ddd", "101");
        dry.row(6, "nextWrong", new long[0], 0, 2, 2, NONE);
        Run last = felt("d".repeat(60), "0".repeat(59) + "1");
        last.due(59, "nextWrong", 0);
        last.due(59, "nextWrong", 59);
        last.no(1, "nextWrong", 60);
        last.ask("lie", 0, 59);
        last.no(6, "nextWrong", 0);
        // Nothing said is not wrong.
        felt("rr", "00").then("cure", 0, 1).row(6, "nextWrong", new long[0], 0, NONE);
        Run late = Run.with("farmer a ahead 3 fails 0 false 0;weather ddd;").then("twinge", 0, 0, 1);
        late.no(6, "nextWrong", 0);
        late.then("day", 0).due(3, "nextWrong", 0);
    }

    static void promise64Ranges() {
        whatRange("warned", 1);
    }

    static void promise64OneAtLeastOrNone() {
        new Run().row(1, "warned", new long[0], 0, 0, NONE);
        Run.with("weather rhd;").row(1, "warned", new long[0], 0, 2, NONE);
        felt("rhd", "111").row(1, "warned", new long[0], 2, 0, NONE);
        felt("rhd", "100", "100").row(1, "warned", new long[0], 1, 1, NONE);
        felt("rhd", "100", "010").row(1, "warned", new long[0], 2, 0, NONE);
        felt("r".repeat(60), "1".repeat(60)).row(1, "warned", new long[0], 60, 0, NONE);
        felt("r".repeat(60), "0".repeat(60)).row(1, "warned", new long[0], 0, 60, NONE);
        felt("rr", "11").then("cure", 0, 1).row(1, "warned", new long[0], 1, 1, NONE);
        Run.with("farmer a ahead 1 fails 0 false 0;weather rr;").row(1, "warned", new long[0], 1, 1, NONE);
        Run.with("farmer a ahead 0 fails 0 false 0 elbow;weather rh;").row(1, "warned", new long[0], 1, 1, NONE);
    }

    static void promise65Ranges() {
        Run.farmerRange("agrees", 0);
    }

    static void promise65JustWhatTheBenchSays() {
        Run.with(Run.knees(1)).due(0, "agrees", 0);
        felt("rdrd", "1111").due(4, "agrees", 0);
        felt("d".repeat(60), "0".repeat(60), "1".repeat(60)).row(1, "agrees", new long[0], 60, 0, NONE);
        felt("ddd", "110", "101", "011").row(1, "agrees", new long[0], 2, 2, 2, NONE);
        felt("ddd", "110", "101", "011").then("cure", 2, 0).row(1, "agrees", new long[0], 2, 2, 0, NONE);
        // Of days that are not there nobody agrees.
        Run.with("farmer a ahead 3 fails 0 false 0;weather ddd;").due(0, "agrees", 0);
        Run.with("farmer a ahead 3 fails 0 false 0;weather dddd;").due(1, "agrees", 0);
        Run.with("farmer a behind 3 fails 0 false 0;weather dddd;").due(1, "agrees", 0);
    }
}
