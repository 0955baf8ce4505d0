/** What the document says of edges: promises 1 to 8, a new object, the STATUS, the fraction, trays. */
final class TrayEdges {
    private static final int MOST = Integer.MAX_VALUE;
    private static final int LEAST = Integer.MIN_VALUE;
    private static final int NONE = KneeBench.NONE;

    private TrayEdges() {
    }

    static void promise01NothingIsToldOfANewObject() {
        Run r = new Run();
        r.due(0, "status");
        r.due(0, "top");
        r.due(1, "bottom");
        r.due(NONE, "fault", 0);
        r.due(NONE, "fault", 1);
        r.row(0, "told", new long[0], 0, 0, 0, 0, 0);
        for (int tray = 0; tray < 4; tray++) {
            r.no(2, "read", tray, 0);
        }
        r.no(1, "bench", 1);
        r.no(6, "back");
        r.no(6, "live", 0);
        r.no(6, "lived", 0);
        r.no(6, "seatAt", 0);
        r.due(1, "mark");
        r.due(20, "feed", 0, 0, 0, 0, 0);
    }

    static void promise01NobodyAndNoDayIsAskedForInVain() {
        Run r = new Run();
        for (String name : new String[] {"right", "toldBy", "lag", "quiet", "useful", "mood", "foe", "rival", "streak",
            "agrees"}) {
            r.no(1, name, 0);
        }
        r.no(1, "trust", 0);
        for (String name : new String[] {"farmer", "dislikes", "should", "twinges", "lie", "tells", "wrongs", "fits",
            "alike", "clashes"}) {
            r.no(1, name, 0, 0);
        }
        r.no(1, "weather", 0);
        r.no(1, "learn", 0);
        r.no(1, "twinge", 0, 0, 1);
        r.no(1, "cure", 0, 0);
        r.no(1, "brandy", 0, 0);
        r.no(1, "weigh", 0, 1);
        r.no(1, "stairs", 0, 0, 1);
        for (String name : new String[] {"says", "tips", "flips", "sure", "nextWrong"}) {
            r.no(6, name, 0);
        }
        for (String name : new String[] {"truest", "seats", "fever"}) {
            r.no(6, name);
        }
        r.no(6, "mean", 0, 1);
    }

    static void promise01CountsOfNothingAre0() {
        Run r = new Run();
        r.due(0, "feel", 0);
        r.due(0, "kept");
        r.due(0, "silent");
        r.due(0, "bestLaw");
        r.row(0, "keptBy", new long[0], 0, 0, 0, 0);
        r.row(0, "spell", new long[0], 0, 0);
        r.row(0, "lies", new long[0], 0, 0);
        r.row(0, "warned", new long[0], 0, 0);
        r.due(0, "believers", 0);
        r.due(0, "believers", 62);
        r.due(0, "span", 0, 62);
        r.due(0, "wedding", 0, 62);
        r.due(0, "fewest", 0);
        r.fraction(1, 16, "odds", 0, 1);
        r.fraction(1, 4096, "hay", 60, 3, 15);
        r.due(0, "season", 0);
        r.due(0, "bench", 0);
    }

    static void promise02StatusIsOfTheLatestCallThatHasOne() {
        Run r = new Run();
        r.due(0, "status");
        for (int i = 0; i < 45; i++) {
            r.ask("feed", 0, 0, 0, 0, 0);
        }
        r.ask("day", 3);
        r.due(1, "status");
        r.due(NONE, "feed", 0, 0, 0, 0, 0);
        r.due(1, "status");
        r.ask("top");
        r.ask("bottom");
        r.ask("fault", 0);
        r.ask("fault", 9);
        r.due(1, "status");
        r.due(1, "status");
        r.ask("bench", 1);
        r.due(9, "status");
        r.due(20, "feed", 0, 0, 0, 0, 0);
        r.due(9, "status");
        r.ask("day", 0);
        r.due(0, "status");
    }

    static void promise02EachStatusIsTold() {
        Run r = new Run();
        r.no(1, "tray", 4, 0, 0);
        r.no(2, "read", 0, 0);
        r.then("tray", 0, 0, 0).then("tray", 1, 1, 0);
        r.no(3, "read", 0, 0);
        r.no(8, "pour", 0, 0, 1, 0, 0);
        r.then("mark").then("mark").then("mark");
        r.no(4, "mark");
        r.no(6, "seats");
        Run sure = Run.with("farmer a ahead 0 fails 16 false 0;weather r;");
        sure.no(7, "odds", 0, 1);
        sure.then("tray", 0, 0, 1).then("write", 0, 0, -1);
        sure.no(5, "stairs", 0, 0, 1);
        sure.faulty(1, 0, "season", "!");
    }

    static void promise03And04TheFractionIsWithoutACommonDivisor() {
        Run r = Run.with(Run.knees(1) + "weather rrrrrrdddddd;");
        r.fraction(1, 1, "trust", 0);
        for (int d = 0; d < 4; d++) {
            r.ask("lie", 0, d);
        }
        r.fraction(2, 3, "trust", 0);
        r.then("lie", 0, 4).then("lie", 0, 5);
        r.fraction(1, 2, "trust", 0);
        r.ask("lie", 0, 6);
        r.fraction(5, 12, "trust", 0);
    }

    static void promise03And04NoughtIsNoughtByOne() {
        Run r = Run.with(Run.knees(1) + "weather dd;").season("feel;lie a on 0;lie a on 1;");
        r.fraction(0, 1, "odds", 0, 9);
        r.fraction(0, 1, "mean", 0, 20);
        r.then("lie", 0, 0).then("lie", 0, 1);
        r.fraction(0, 1, "trust", 0);
        r.fraction(0, 1, "hay", 0, 2, 9);
    }

    static void promise03And04TheGreatestFractions() {
        Run r = Run.with("farmer a ahead 0 fails 5 false 2;weather ddd;");
        // Dry: 15 * 14 of 15 * 14 + 1 * 5 = 210 of 215: 976744 millionths, which 8 divides, 125 and 16 don't.
        r.fraction(976744L / 8 * (976744 / 8) * (976744 / 8), 1000000000000000000L / 512, "hay", 0, 3, 1);
        r = Run.with("farmer a ahead 0 fails 2 false 1;weather ddd;");
        // 15 * 15 of 225 + 2: 991189 millionths, which neither 2 nor 5 divides.
        r.fraction(991189L * 991189L * 991189L, 1000000000000000000L, "hay", 0, 3, 1);
        StringBuilder eight = new StringBuilder();
        for (char c = 'a'; c < 'i'; c++) {
            eight.append("farmer ").append(c).append(" ahead 0 fails 0 false 15;");
        }
        r = Run.with(eight + "weather r;");
        // Rain: 15 * 16 to the eighth, dry: 15 to the eighth.
        r.fraction(4294967296L, 4294967296L + 170859375L, "odds", 0, 15);
    }

    static void promise03And04ARefusedCallLeavesTheFraction() {
        Run r = Run.with(Run.knees(1) + "weather rd;").then("lie", 0, 0);
        r.fraction(1, 2, "trust", 0);
        r.no(1, "trust", 1);
        r.no(1, "odds", 0, 0);
        r.no(1, "hay", 0, 4, 1);
        r.no(6, "mean", 0, 1);
        r.ask("trust", 1);
        r.due(1, "top");
        r.due(2, "bottom");
    }

    static void promise05Ranges() {
        for (Run r : Run.states()) {
            r.range(1, "tray", 0, 0, 3, 0, 0, 1);
            r.range(1, "tray", 1, 0, 3, 0, 0, 1);
            r.range(1, "tray", 2, 0, 60, 0, 0, 1);
        }
    }

    static void promise05ARowOfNoneIsNotMissing() {
        Run r = new Run();
        r.no(2, "read", 1, 0);
        r.due(1, "tray", 1, 2, 0);
        r.no(3, "read", 1, 0);
        r.no(3, "write", 1, 0, 5);
        r.due(1, "pour", 1, 0, 1, 0, 0);
        r.no(2, "read", 0, 0);
        r.no(2, "read", 2, 0);
    }

    static void promise05ARowOf60HasPlaces0To59() {
        for (int sort = 0; sort < 4; sort++) {
            Run r = new Run();
            r.due(1, "tray", sort, sort, 60);
            r.row(0, "read", new long[] {sort}, new long[60]);
            r.no(3, "read", sort, 60);
            r.due(1, "write", sort, 59, 1);
            r.due(1, "write", sort, 0, 2);
            r.due(1, "read", sort, 59);
            r.due(2, "read", sort, 0);
            r.due(0, "read", sort, 58);
            r.due(0, "read", sort, 1);
        }
    }

    static void promise05ATrayLaidAnewIsOf0sAlone() {
        Run r = new Run().then("tray", 0, 3, 3).then("write", 0, 0, -1).then("write", 0, 2, MOST);
        r.due(1, "tray", 0, 3, 3);
        r.row(0, "read", new long[] {0}, 0, 0, 0);
        r.then("write", 0, 1, 300);
        r.due(1, "tray", 0, 0, 2);
        r.row(0, "read", new long[] {0}, 0, 0);
        r.no(3, "read", 0, 2);
        r.due(1, "write", 0, 1, 300);
        r.due(44, "read", 0, 1);
        r.due(1, "tray", 0, 0, 60);
        r.due(0, "read", 0, 1);
        r.due(0, "read", 0, 2);
    }

    /** Four full rows, each place with a number of its own. */
    private static Run fourRows() {
        Run r = new Run();
        for (int tray = 0; tray < 4; tray++) {
            r.ask("tray", tray, 3, 60);
            for (int place = 0; place < 60; place++) {
                r.ask("write", tray, place, 100 * tray + place + 1);
            }
        }
        return r;
    }

    private static long[] rowOf(int tray) {
        long[] row = new long[60];
        for (int place = 0; place < 60; place++) {
            row[place] = 100 * tray + place + 1;
        }
        return row;
    }

    static void promise05And06EachTrayIsARowOfItsOwn() {
        Run full = fourRows();
        for (int tray = 0; tray < 4; tray++) {
            full.copy().row(0, "read", new long[] {tray}, rowOf(tray));
        }
        for (int tray = 0; tray < 4; tray++) {
            Run laid = full.copy().then("tray", tray, 3, 60);
            for (int other = 0; other < 4; other++) {
                laid.copy().row(0, "read", new long[] {other}, other == tray ? new long[60] : rowOf(other));
            }
        }
    }

    static void promise08FromEachTrayToEach() {
        Run full = fourRows();
        for (int from = 0; from < 4; from++) {
            for (int to = 0; to < 4; to++) {
                Run poured = full.copy();
                poured.due(1, "pour", from, 7, to, 50, 10);
                for (int other = 0; other < 4; other++) {
                    long[] want = rowOf(other);
                    for (int i = 0; other == to && i < 10; i++) {
                        want[50 + i] = 100 * from + 8 + i;
                    }
                    poured.copy().row(0, "read", new long[] {other}, want);
                }
            }
        }
    }

    static void promise06Ranges() {
        Run r = new Run().then("tray", 0, 3, 60).then("tray", 1, 3, 1).then("tray", 2, 3, 1).then("tray", 3, 3, 1);
        r.range(1, "write", 0, 0, 3, 0, 0, 7);
        r.range(3, "write", 1, 0, 59, 0, 0, 7);
        r.range(3, "write", 1, 0, 0, 1, 0, 7);
        for (long v : new long[] {Long.MIN_VALUE, Long.MAX_VALUE}) {
            r.due(1, "write", 0, 0, v);
            r.due(v, "read", 0, 0);
        }
    }

    static void promise06WhatIsDueFirst() {
        Run r = new Run();
        r.no(1, "write", 4, -1, 0);
        r.no(1, "write", -1, 99, 0);
        r.no(2, "write", 0, -1, 0);
        r.no(2, "write", 3, 60, 0);
        r.then("tray", 0, 0, 0);
        r.no(3, "write", 0, 0, 0);
        r.no(3, "write", 0, LEAST, 0);
    }

    private static void cut(int sort, long... valuesAndWhatTheyBecome) {
        Run r = new Run().then("tray", 0, sort, 3);
        for (int i = 0; i < valuesAndWhatTheyBecome.length; i += 2) {
            r.due(1, "write", 0, 1, valuesAndWhatTheyBecome[i]);
            r.due(valuesAndWhatTheyBecome[i + 1], "read", 0, 1);
            r.due(0, "read", 0, 0);
            r.due(0, "read", 0, 2);
        }
    }

    static void promise06CutTo8Bits() {
        cut(0, 127, 127, 128, -128, 129, -127, -128, -128, -129, 127, 255, -1, 256, 0, 257, 1, -1, -1, -256, 0,
                Long.MAX_VALUE, -1, Long.MIN_VALUE, 0);
    }

    static void promise06CutTo16Bits() {
        cut(1, 32767, 32767, 32768, -32768, -32768, -32768, -32769, 32767, 65535, -1, 65536, 0, 128, 128, 255, 255,
                Long.MAX_VALUE, -1, Long.MIN_VALUE, 0);
    }

    static void promise06CutTo32Bits() {
        cut(2, 2147483647L, 2147483647L, 2147483648L, -2147483648L, -2147483648L, -2147483648L, -2147483649L, 2147483647L,
                4294967295L, -1, 4294967296L, 0, 65536, 65536, Long.MAX_VALUE, -1, Long.MIN_VALUE, 0);
    }

    static void promise06NothingIsCutOf64Bits() {
        cut(3, Long.MAX_VALUE, Long.MAX_VALUE, Long.MIN_VALUE, Long.MIN_VALUE, 4294967296L, 4294967296L, -1, -1, 0, 0);
    }

    static void promise07Ranges() {
        for (Run r : new Run[] {Run.some().then("tray", 1, 0, 3).then("tray", 3, 0, 3).then("tray", 2, 0, 3), Run.full()}) {
            r.range(1, "read", 0, 0, 3, 0, 0);
        }
        Run.some().range(3, "read", 1, 0, 2, 0, 0);
        Run.some().range(3, "read", 1, 0, 0, 2, 0);
        Run.full().range(3, "read", 1, 0, 59, 3, 0);
    }

    static void promise07StatusTellsNoneFromMinus1() {
        Run r = new Run().then("tray", 0, 0, 1).then("write", 0, 0, 255);
        r.due(-1, "read", 0, 0);
        r.due(1, "tray", 1, 3, 1);
        r.due(1, "write", 1, 0, -1);
        r.due(-1, "read", 1, 0);
        r.no(3, "read", 0, 1);
    }

    static void promise07WhatIsDueFirst() {
        Run r = new Run();
        r.no(1, "read", 4, -1);
        r.no(1, "read", LEAST, MOST);
        r.no(2, "read", 3, -1);
        r.no(2, "read", 0, MOST);
        r.then("tray", 3, 0, 0);
        r.no(3, "read", 3, -1);
    }

    private static Run twoRows() {
        Run r = new Run().then("tray", 0, 1, 5).then("tray", 1, 1, 3);
        for (int i = 0; i < 5; i++) {
            r.ask("write", 0, i, i + 1);
        }
        return r;
    }

    static void promise08Ranges() {
        Run r = new Run();
        for (int tray = 0; tray < 4; tray++) {
            r.then("tray", tray, 2, 4);
        }
        r.range(1, "pour", 0, 0, 3, 0, 0, 0, 0, 1);
        r.range(1, "pour", 2, 0, 3, 0, 0, 0, 0, 1);
        for (int at : new int[] {1, 3, 4}) {
            long[] args = {0, 0, 1, 0, 0};
            for (long v : new long[] {-1, LEAST}) {
                args[at] = v;
                r.no(1, "pour", args);
            }
            for (long v : new long[] {5, MOST}) {
                args[at] = v;
                r.no(3, "pour", args);
            }
            args[at] = 4;
            r.due(1, "pour", args);
        }
    }

    static void promise08WhatIsDueFirst() {
        Run r = new Run();
        r.no(1, "pour", 4, 0, 0, 0, 0);
        r.no(1, "pour", 0, 0, 4, 0, 0);
        r.no(1, "pour", 0, -1, 1, 0, 0);
        r.no(1, "pour", 0, 0, 1, -1, 0);
        r.no(1, "pour", 0, 0, 1, 0, -1);
        r.no(2, "pour", 0, 0, 1, 0, 0);
        r.no(2, "pour", 0, MOST, 1, MOST, MOST);
        r.then("tray", 0, 1, 2);
        r.no(2, "pour", 0, 9, 1, 9, 9);
        r.no(2, "pour", 1, 0, 0, 0, 0);
        r.then("tray", 1, 2, 2);
        r.no(8, "pour", 0, 9, 1, 9, 9);
        r.no(8, "pour", 1, 0, 0, 0, 0);
        r.no(1, "pour", 0, 9, 1, 9, -1);
        r.then("tray", 1, 1, 2);
        r.no(3, "pour", 0, 9, 1, 9, 9);
    }

    static void promise08UpToTheLastPlace() {
        Run r = twoRows();
        r.due(1, "pour", 0, 2, 1, 0, 3);
        r.row(0, "read", new long[] {1}, 3, 4, 5);
        r.no(3, "pour", 0, 3, 1, 0, 3);
        r.no(3, "pour", 0, 2, 1, 1, 3);
        r.no(3, "pour", 0, 0, 1, 0, 4);
        r.no(3, "pour", 1, 0, 0, 0, 4);
        r.due(1, "pour", 0, 0, 1, 2, 1);
        r.row(0, "read", new long[] {1}, 3, 4, 1);
        r.no(3, "pour", 0, 0, 1, 3, 1);
        r.no(3, "pour", 0, 5, 1, 0, 1);
    }

    static void promise08NumbersThatTogetherWrapAround() {
        Run r = twoRows();
        r.no(3, "pour", 0, 1, 1, 0, MOST);
        r.no(3, "pour", 0, MOST, 1, 0, 1);
        r.no(3, "pour", 0, 0, 1, MOST, 1);
        r.no(3, "pour", 0, MOST, 1, MOST, MOST);
        r.no(3, "pour", 0, MOST, 1, 0, 0);
        r.no(3, "pour", 0, 0, 1, MOST, 0);
    }

    static void promise08NoneOfThem() {
        Run r = twoRows();
        r.due(1, "pour", 0, 0, 1, 0, 0);
        r.due(1, "pour", 0, 4, 1, 2, 0);
        r.row(0, "read", new long[] {0}, 1, 2, 3, 4, 5);
        r.row(0, "read", new long[] {1}, 0, 0, 0);
        r.no(3, "pour", 0, 6, 1, 0, 0);
        r.no(3, "pour", 0, 0, 1, 4, 0);
    }

    static void promise08ToItsOwnPlacesAsTheyWere() {
        Run r = twoRows();
        r.due(1, "pour", 0, 0, 0, 1, 4);
        r.row(0, "read", new long[] {0}, 1, 1, 2, 3, 4);
        r.due(1, "pour", 0, 1, 0, 0, 4);
        r.row(0, "read", new long[] {0}, 1, 2, 3, 4, 4);
        r.due(1, "pour", 0, 0, 0, 0, 5);
        r.row(0, "read", new long[] {0}, 1, 2, 3, 4, 4);
        r.due(1, "pour", 0, 0, 0, 4, 1);
        r.row(0, "read", new long[] {0}, 1, 2, 3, 4, 1);
    }

    static void promise08AWholeRowOf60() {
        Run r = new Run().then("tray", 0, 3, 60).then("tray", 3, 3, 60);
        for (int i = 0; i < 60; i++) {
            r.ask("write", 0, i, Long.MAX_VALUE - i);
        }
        r.due(1, "pour", 0, 0, 3, 0, 60);
        long[] want = new long[60];
        for (int i = 0; i < 60; i++) {
            want[i] = Long.MAX_VALUE - i;
        }
        r.row(0, "read", new long[] {3}, want);
        r.no(3, "pour", 0, 0, 3, 0, 61);
        r.no(3, "pour", 0, 1, 3, 0, 60);
        r.no(3, "pour", 0, 0, 3, 1, 60);
        r.due(1, "pour", 0, 59, 3, 0, 1);
        r.due(want[59], "read", 3, 0);
        r.due(want[1], "read", 3, 1);
    }
}
