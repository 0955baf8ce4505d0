import java.util.List;

/** What the document says of edges: promises 9, 10 and 12, the tape, the text of a bench, its faults. */
final class BenchTextEdges {
    private static final int NONE = KneeBench.NONE;
    private static final String A = Run.knees(1);

    private BenchTextEdges() {
    }

    private static void isTaken(long farmers, String text) {
        new Run().taken(farmers, "bench", text);
    }

    private static void fault(int kind, int place, String text) {
        Run.benchFault(kind, place, text);
    }

    // ---- the tape

    static void promise09UpTo900BytesAndNoMore() {
        Run r = new Run();
        for (int i = 1; i <= 45; i++) {
            r.due(20 * i, "feed", 0x20202020, 0x0a0a0a0a, 0x20202020, 0x20202020, i == 45 ? 0x20202021 : 0x20202020);
        }
        r.due(NONE, "feed", 0, 0, 0, 0, 0);
        r.due(NONE, "feed", Integer.MIN_VALUE, Integer.MAX_VALUE, -1, 0, 1);
        r.no(1, "bench", 901);
        r.no(9, "bench", 900);
        r.ask("bench", 900);
        r.due(899, "fault", 1);
        r.due(20, "feed", 0, 0, 0, 0, 0);
    }

    static void promise09TheHighestByteOfEachIntStandsFirst() {
        for (int place = 0; place < 20; place++) {
            int[] fed = {0x20202020, 0x20202020, 0x20202020, 0x20202020, 0x20202020};
            fed[place / 4] ^= 1 << 24 - place % 4 * 8;
            Run r = new Run();
            r.due(20, "feed", fed[0], fed[1], fed[2], fed[3], fed[4]);
            r.ask("bench", 20);
            r.due(1, "fault", 0);
            r.due(place, "fault", 1);
        }
    }

    static void promise09BehindThoseOnTheTape() {
        Run r = new Run();
        r.due(20, "feed", 0x766f7465, 0x20202020, 0x20202020, 0x20202020, 0x20202020);
        r.due(40, "feed", 0x20616c6c, 0x3b202020, 0x20202020, 0x20202020, 0x20202020);
        r.due(0, "bench", 40);
        r.due(3, "told", 4);
    }

    static void promise09TheLeastAndTheGreatestInts() {
        for (int v : new int[] {Integer.MIN_VALUE, Integer.MAX_VALUE, -1, 0}) {
            for (int at = 0; at < 5; at++) {
                long[] fed = {0x20202020, 0x20202020, 0x20202020, 0x20202020, 0x20202020};
                fed[at] = v;
                Run r = new Run();
                r.due(20, "feed", fed);
                r.ask("season", 20);
                r.due(1, "fault", 0);
                r.due(4 * at, "fault", 1);
            }
        }
    }

    // ---- how much of the tape is read

    static void promise10Ranges() {
        new Run().range(1, "bench", 0, 0, 0, 0);
        Run.some().range(1, "bench", 0, 0, 20, 0);
        Run.full().range(1, "bench", 0, 0, 900, 0);
        new Run().then("feed", 0, 0, 0, 0, 0).then("bench", 0).range(1, "bench", 0, 0, 0, 0);
    }

    static void promise10TheFirstBytesOfTheTapeAndTheRestIsGone() {
        String two = "vote all;vote any;  ";
        for (int n : new int[] {0, 9, 18}) {
            Run r = new Run();
            r.tape(two);
            if (n < 18) {
                r.due(0, "bench", n);
                r.due(n == 9 ? 3 : 0, "told", 4);
            } else {
                r.no(9, "bench", n);
                r.ask("bench", n);
                r.due(9, "fault", 1);
            }
            r.due(20, "feed", 0x20202020, 0x20202020, 0x20202020, 0x20202020, 0x20202020);
            r.due(0, "bench", 20);
        }
    }

    static void promise10WithStatus1TheTapeStays() {
        Run r = new Run();
        r.tape("vote all;           ");
        r.ask("bench", 21);
        r.ask("bench", -1);
        r.ask("season", 21);
        r.due(40, "feed", 0x20202020, 0, 0, 0, 0);
        r.due(0, "bench", 24);
        r.due(3, "told", 4);
    }

    static void promise10And11WhatIsDueFirst() {
        Run r = new Run();
        r.tape("!".repeat(320));
        r.no(1, "bench", -1);
        r.no(1, "bench", 321);
        r.no(9, "bench", 320);
        r.no(9, "bench", 1);
        r.no(1, "season", -1);
        r.no(1, "season", 301);
        r.no(1, "season", 320);
        r.no(1, "season", 321);
        r.no(9, "season", 300);
        r.no(9, "season", 1);
    }

    static void promise10ATextOf900Bytes() {
        Run r = new Run();
        r.taken(0, "bench", " ".repeat(891) + "vote all;");
        r.due(3, "told", 4);
        new Run().faulty(2, 899, "bench", " ".repeat(891) + "vote all");
        Run cut = new Run();
        cut.tape(" ".repeat(891) + "vote all;");
        cut.no(9, "bench", 899);
        cut.due(0, "bench", 890);
        cut.due(0, "told", 4);
        Run nothing = new Run();
        nothing.taken(0, "bench", "");
        nothing.taken(0, "bench", " ");
        nothing.taken(0, "bench", "\n \n");
    }

    static void promise10AllOfTheOldBenchIsGone() {
        Run r = Run.full().then("bench", 0);
        r.row(1, "told", new long[0], 0, 0, 0, 0, 0, NONE);
        r.no(6, "live", 0);
        r.taken(2, "bench", Run.knees(2) + "weather rd;");
        r.due(0, "dislikes", 0, 1);
        r.due(64, "farmer", 0, 5);
        r.felt(0, "10");
        r.felt(1, "10");
        r.due(0, "told", 4);
        r.no(6, "live", 0);
        r = Run.some();
        r.taken(0, "season", "");
        r.taken(3, "bench", Run.knees(3));
        for (int f = 0; f < 3; f++) {
            r.row(6, "farmer", new long[] {f}, 0, 0, 0, 0, NONE, 64, 0);
            r.row(0, "dislikes", new long[] {f}, 0, 0, 0);
        }
        r.due(0, "told", 1);
        r.due(0, "told", 4);
    }

    static void promise10WithAFaultTheOldOneStays() {
        for (Run r : new Run[] {Run.some(), Run.full()}) {
            r.no(9, "bench", 20);
            r.no(9, "season", 20);
        }
        for (String text : new String[] {"farmer b" + Run.KNEE + "weather hhhh;vote any;x", "weather rr", "farmer"}) {
            int place = text.endsWith("x") ? text.length() - 1 : text.length();
            Run.with(Run.knees(2) + "dislikes a b 4;weather rd;vote all;").season("dry;lie b on 0;").then("weigh", 0, 9)
                    .then("lie", 1, 1).faulty(2, place, "bench", text);
        }
    }

    static void promise10EachKneeTwingesWhereItShouldAndAllWeightsAre64() {
        Run r = Run.with("farmer a ahead 3 fails 16 false 16;weather rd;farmer b behind 3 fails 16 false 16;weather hdd;"
                + "farmer c ahead 0 fails 9 false 9 elbow cured 3;farmer e ahead 0 fails 0 false 0 cured 2;weather r;");
        r.felt(0, "001000");
        r.felt(1, "000101");
        r.felt(2, "001000");
        r.felt(3, "100000");
        for (int f = 0; f < 4; f++) {
            r.due(64, "farmer", f, 5);
        }
    }

    // ---- tokens

    static void promise10EachByteAlone() {
        for (int c = 0; c < 256; c++) {
            String text = String.valueOf((char) c);
            if (Run.faultOfByte(c) == 0) {
                isTaken(0, text);
            } else {
                fault(Run.faultOfByte(c), 0, text);
            }
        }
    }

    static void promise10EachByteInAWord() {
        for (int c = 0; c < 256; c++) {
            String text = "farmer a" + (char) c + " ahead 0 fails 0 false 0;";
            if (c == 10 || c == 32 || c >= 'a' && c <= 'z') {
                isTaken(1, text);
            } else {
                fault(c >= '0' && c <= '9' || ";<>=".indexOf(c) >= 0 ? 2 : 1, 8, text);
            }
        }
    }

    static void promise10Blanks() {
        isTaken(1, "\n\n farmer\na\n\nahead 1   fails\n 2 false 3\n;\n vote  any ; ");
        isTaken(1, "farmer a ahead1fails2false3elbow cured4;weather d;vote any;");
        isTaken(2, "farmer a ahead1fails2false3;farmer b behind1fails2false3;dislikes a b1;vote any;");
        fault(2, 0, "votemost;");
        fault(2, 5, "vote mostx;");
        fault(2, 0, "farmera ahead 0 fails 0 false 0;");
        fault(1, 1, " \t");
        fault(1, 0, "\r\n");
    }

    static void promise10Words() {
        fault(2, 0, "farmers a" + Run.KNEE);
        fault(1, 0, "Farmer a" + Run.KNEE);
        fault(2, 0, "zzzzzzzzzzzzzzzzzzzz");
        fault(2, 0, "farme r a" + Run.KNEE);
        for (String word : Run.RESERVED) {
            fault(2, List.of("farmer", "dislikes", "weather", "vote").contains(word) ? word.length() : 0, word);
        }
    }

    static void promise10NumbersOf1To4Digits() {
        isTaken(1, "farmer a ahead 3 fails 03 false 003 cured 0003;");
        isTaken(1, "farmer a ahead 0000 fails 0000 false 0000 cured 0000;");
        fault(1, 15, "farmer a ahead 00003 fails 0 false 0;");
        fault(1, 15, "farmer a ahead 12345 fails 0 false 0;");
        fault(1, 15, "farmer a ahead 00000000000000000003");
        fault(4, 15, "farmer a ahead 9999 fails 0 false 0;");
        fault(4, 15, "farmer a ahead 1000 fails 0 false 0;");
        fault(1, 7, "farmer 12345");
        fault(2, 7, "farmer 1234");
        fault(1, 7, "farmer 99999999999999999999");
    }

    static void promise10SignsThatStandNowhere() {
        for (String sign : new String[] {"<", ">", "="}) {
            fault(2, 0, sign);
            fault(2, 32, A.replace(";", sign));
            fault(2, 7, "farmer " + sign);
            fault(2, 15, "farmer a ahead " + sign);
        }
        fault(2, 0, ";");
        fault(2, 33, A + ";");
        fault(2, 6, "farmer;");
        fault(2, 8, "vote all");
        fault(2, 9, "vote all vote any;");
    }

    // ---- names

    static void promise10NamesOf1To8Letters() {
        isTaken(1, "farmer z" + Run.KNEE);
        isTaken(1, "farmer abcdefg" + Run.KNEE);
        isTaken(1, "farmer abcdefgh" + Run.KNEE);
        fault(2, 7, "farmer abcdefghi" + Run.KNEE);
        fault(2, 7, "farmer " + "a".repeat(60) + Run.KNEE);
        isTaken(3, "farmer zzzzzzzz" + Run.KNEE + "farmer zzzzzzz" + Run.KNEE + "farmer zzzzzzza" + Run.KNEE);
        isTaken(3, "farmer ab" + Run.KNEE + "farmer ba" + Run.KNEE + "farmer abb" + Run.KNEE);
    }

    static void promise10NamesThatAreLikeEachOther() {
        String[] names = {"p", "ap", "q", "aq", "z", "az", "paaaaaaa", "pa"};
        StringBuilder b = new StringBuilder();
        for (String name : names) {
            b.append("farmer ").append(name).append(Run.KNEE);
        }
        for (int i = 1; i < 8; i++) {
            b.append("dislikes ").append(names[i]).append(' ').append(names[i - 1]).append(' ').append(i).append(';');
        }
        Run r = Run.with(b.toString());
        for (int i = 1; i < 8; i++) {
            r.due(i, "dislikes", i - 1, i);
        }
        r.due(1, "mood", 0);
        r.due(13, "mood", 6);
    }

    static void promise10WordsThatAreNoNames() {
        for (String word : Run.RESERVED) {
            fault(2, 7, "farmer " + word + Run.KNEE);
            fault(2, A.length() + 9, A + "dislikes " + word + " a 1;");
            fault(2, A.length() + 11, A + "dislikes a " + word + " 1;");
            if (word.length() < 8) {
                isTaken(1, "farmer " + word + "x" + Run.KNEE);
            }
            if (word.length() > 1) {
                isTaken(1, "farmer x" + word.substring(1) + Run.KNEE);
            }
        }
        isTaken(1, "farmer farm" + Run.KNEE);
        isTaken(1, "farmer law" + Run.KNEE);
        isTaken(1, "farmer bench" + Run.KNEE);
    }

    static void promise10ANameThatIsTaken() {
        fault(3, A.length() + 7, A + A);
        fault(3, A.length() + 7, A + "farmer a");
        fault(3, 2 * A.length() + 7, Run.knees(2) + "farmer b" + Run.KNEE);
        String eight = "farmer abcdefgh" + Run.KNEE;
        fault(3, eight.length() + 7, eight + eight);
        Run r = Run.with(A);
        r.taken(1, "bench", A);
    }

    static void promise10ANameThatIsNoFarmerToldAhead() {
        fault(3, 9, "dislikes a b 1;");
        fault(3, A.length() + 9, A + "dislikes b a 1;");
        fault(3, A.length() + 11, A + "dislikes a b 1;");
        fault(3, A.length() + 11, A + "dislikes a b 1;farmer b" + Run.KNEE);
        fault(3, 9, "dislikes a b 1;" + Run.knees(2));
        Run.with(Run.knees(2)).faulty(3, 9, "bench", "dislikes a b 1;");
        fault(2, A.length() + 9, A + "dislikes abcdefghi a 1;");
        fault(2, A.length() + 11, A + "dislikes a abcdefghi 1;");
        fault(2, A.length() + 9, A + "dislikes 1 a 1;");
        fault(2, A.length() + 11, A + "dislikes a 1;");
    }

    // ---- farmers

    static void promise10EightFarmersAndNoNinth() {
        isTaken(0, "");
        isTaken(1, Run.knees(1));
        isTaken(7, Run.knees(7));
        isTaken(8, Run.knees(8));
        String eight = Run.knees(8);
        fault(6, eight.length(), Run.knees(9));
        fault(6, eight.length(), eight + "farmer");
        fault(6, eight.length() + 1, eight + " farmer a" + Run.KNEE);
        fault(6, eight.length(), eight + "farmer !");
        fault(2, eight.length(), eight + "farmers");
        fault(1, eight.length(), eight + "!farmer");
        isTaken(8, eight + "vote any;weather d;dislikes a h 1;");
    }

    static void promise10EightFarmersEachAsItStands() {
        int[][] want = {{3, 1, 16, 0, 0}, {-1, 2, 15, 1, 60}, {2, 3, 14, 0, 1}, {-2, 4, 13, 1, 59}, {1, 5, 12, 0, 2},
            {-3, 6, 11, 1, 58}, {0, 7, 10, 0, 3}, {-2, 8, 9, 1, 57}};
        StringBuilder b = new StringBuilder();
        for (int f = 0; f < 8; f++) {
            b.append("farmer ").append((char) ('a' + f)).append(want[f][0] < 0 ? " behind " : " ahead ")
                    .append(Math.abs(want[f][0])).append(" fails ").append(want[f][1]).append(" false ").append(want[f][2])
                    .append(want[f][3] == 1 ? " elbow" : "").append(" cured ").append(want[f][4]).append(';');
        }
        Run r = Run.with(b.toString());
        for (int f = 0; f < 8; f++) {
            for (int what = 0; what < 5; what++) {
                r.due(want[f][what], "farmer", f, what);
            }
        }
        Run back = Run.with(b.toString()).then("mark").then("bench", 0).then("back");
        r.isLike(back, "farmer");
    }

    private static void knee(String rest, int... want) {
        Run r = Run.with("farmer a " + rest + ";");
        for (int what = 0; what < 5; what++) {
            if (want[what] == NONE && what == 4) {
                r.no(6, "farmer", 0, 4);
            } else {
                r.due(want[what], "farmer", 0, what);
            }
        }
    }

    private static void kneeFault(int kind, int place, String rest) {
        fault(kind, 9 + place, "farmer a " + rest);
    }

    static void promise10Ahead0To3() {
        knee("ahead 0 fails 0 false 0", 0, 0, 0, 0, NONE);
        knee("ahead 1 fails 0 false 0", 1, 0, 0, 0, NONE);
        knee("ahead 2 fails 0 false 0", 2, 0, 0, 0, NONE);
        knee("ahead 3 fails 0 false 0", 3, 0, 0, 0, NONE);
        kneeFault(4, 6, "ahead 4 fails 0 false 0;");
        kneeFault(4, 6, "ahead 9999");
        kneeFault(2, 6, "ahead fails");
        kneeFault(2, 0, "fails 0 false 0;");
        kneeFault(2, 8, "ahead 1 behind 1 fails 0 false 0;");
    }

    static void promise10Behind1To3() {
        kneeFault(4, 7, "behind 0 fails 0 false 0;");
        kneeFault(4, 7, "behind 0000");
        knee("behind 1 fails 0 false 0", -1, 0, 0, 0, NONE);
        knee("behind 2 fails 0 false 0", -2, 0, 0, 0, NONE);
        knee("behind 3 fails 0 false 0", -3, 0, 0, 0, NONE);
        kneeFault(4, 7, "behind 4 fails 0 false 0;");
        kneeFault(4, 7, "behind 9999");
    }

    static void promise10FailsAndFalse0To16() {
        knee("ahead 0 fails 0 false 16", 0, 0, 16, 0, NONE);
        knee("ahead 0 fails 1 false 15", 0, 1, 15, 0, NONE);
        knee("ahead 0 fails 15 false 1", 0, 15, 1, 0, NONE);
        knee("ahead 0 fails 16 false 0", 0, 16, 0, 0, NONE);
        kneeFault(4, 14, "ahead 0 fails 17 false 0;");
        kneeFault(4, 14, "ahead 0 fails 9999 false 0;");
        kneeFault(4, 22, "ahead 0 fails 0 false 17;");
        kneeFault(4, 22, "ahead 0 fails 0 false 9999;");
        kneeFault(2, 8, "ahead 0 false 0 fails 0;");
        kneeFault(2, 15, "ahead 0 fails 0;");
        kneeFault(4, 14, "ahead 0 fails 17 false 17;");
    }

    static void promise10ElbowAndCuredPerhaps() {
        knee("ahead 0 fails 0 false 0 elbow", 0, 0, 0, 1, NONE);
        knee("ahead 0 fails 0 false 0 cured 7", 0, 0, 0, 0, 7);
        knee("ahead 0 fails 0 false 0 elbow cured 7", 0, 0, 0, 1, 7);
        kneeFault(2, 32, "ahead 0 fails 0 false 0 cured 7 elbow;");
        kneeFault(2, 30, "ahead 0 fails 0 false 0 elbow elbow;");
        kneeFault(2, 32, "ahead 0 fails 0 false 0 cured 7 cured 8;");
        kneeFault(2, 16, "ahead 0 fails 0 elbow false 0;");
        kneeFault(2, 29, "ahead 0 fails 0 false 0 cured;");
    }

    static void promise10Cured0To60() {
        knee("ahead 0 fails 0 false 0 cured 0", 0, 0, 0, 0, 0);
        knee("ahead 0 fails 0 false 0 cured 1", 0, 0, 0, 0, 1);
        knee("ahead 0 fails 0 false 0 cured 59", 0, 0, 0, 0, 59);
        knee("ahead 0 fails 0 false 0 cured 60", 0, 0, 0, 0, 60);
        kneeFault(4, 30, "ahead 0 fails 0 false 0 cured 61;");
        kneeFault(4, 30, "ahead 0 fails 0 false 0 cured 9999;");
    }

    // ---- dislikes

    static void promise10Dislikes0To99() {
        int place = 2 * A.length() + 13;
        for (int much : new int[] {0, 1, 98, 99}) {
            Run r = Run.with(Run.knees(2) + "dislikes a b " + much + ";");
            r.due(much, "dislikes", 0, 1);
            r.due(much, "dislikes", 1, 0);
        }
        fault(4, place, Run.knees(2) + "dislikes a b 100;");
        fault(4, place, Run.knees(2) + "dislikes a b 9999;");
        fault(2, place - 1, Run.knees(2) + "dislikes a b;");
    }

    static void promise10AFarmerThatDislikesItself() {
        fault(5, A.length() + 11, A + "dislikes a a 1;");
        fault(5, A.length() + 11, A + "dislikes a a");
        fault(5, 2 * A.length() + 11, Run.knees(2) + "dislikes b b 100;");
        fault(3, A.length() + 9, A + "dislikes b b 1;");
    }

    static void promise10DislikesToldTwiceTheLatest() {
        Run r = Run.with(Run.knees(3) + "dislikes a b 5;dislikes b c 6;dislikes b a 7;dislikes c b 0;");
        r.due(7, "dislikes", 0, 1);
        r.due(7, "dislikes", 1, 0);
        r.due(0, "dislikes", 1, 2);
        r.due(0, "dislikes", 0, 2);
    }

    static void promise10DislikesOfAllCouples() {
        StringBuilder b = new StringBuilder(Run.knees(8));
        for (int i = 0; i < 8; i++) {
            for (int k = 0; k < i; k++) {
                b.append("dislikes ").append((char) ('a' + i)).append(' ').append((char) ('a' + k)).append(' ')
                        .append(10 * i + k).append(';');
            }
        }
        Run r = Run.with(b.toString());
        for (int i = 0; i < 8; i++) {
            long[] want = new long[8];
            for (int k = 0; k < 8; k++) {
                want[k] = i == k ? 0 : 10 * Math.max(i, k) + Math.min(i, k);
            }
            r.row(0, "dislikes", new long[] {i}, want);
        }
    }

    // ---- weather and vote

    static void promise10LettersOf1To60() {
        for (int many : new int[] {1, 2, 59, 60}) {
            Run r = new Run();
            r.taken(0, "bench", "weather " + "h".repeat(many) + ";");
            r.due(many, "told", 1);
        }
        fault(2, 7, "weather;");
        fault(2, 8, "weather " + "h".repeat(61) + ";");
        fault(2, 8, "weather " + "d".repeat(200) + ";");
        fault(2, 8, "weather dry;");
        fault(2, 8, "weather rain;");
        fault(2, 8, "weather ddx;");
        fault(2, 8, "weather 1;");
        fault(2, 8, "weather " + "d".repeat(59) + "x;");
        fault(1, 8, "weather D;");
        fault(1, 10, "weather ddD;");
        fault(2, 10, "weather dd3;");
        fault(2, 11, "weather dd dd;");
    }

    static void promise10SixtyDaysInAll() {
        Run r = new Run();
        r.taken(0, "bench", "weather " + "d".repeat(59) + ";weather h;");
        r.due(60, "told", 1);
        r.due(2, "weather", 59);
        fault(6, 77, "weather " + "d".repeat(60) + ";weather h;");
        fault(6, 77, "weather " + "d".repeat(60) + ";weather h");
        fault(6, 76, "weather " + "d".repeat(59) + ";weather hr;");
        fault(6, 28, "weather d;weather d;weather " + "h".repeat(59) + ";");
        fault(2, 77, "weather " + "d".repeat(60) + ";weather x;");
        fault(2, 77, "weather " + "d".repeat(60) + ";weather " + "d".repeat(61) + ";");
        fault(2, 76, "weather " + "d".repeat(60) + ";weather;");
        Run ten = new Run();
        ten.taken(0, "bench", "weather drhrdh;".repeat(10));
        ten.due(60, "told", 1);
        ten.due(40, "told", 2);
        ten.due(20, "told", 3);
        fault(6, 158, "weather drhrdh;".repeat(11));
    }

    static void promise10EachVoteAndMostWithoutOne() {
        String[] laws = {"most", "weights", "any", "all"};
        for (int law = 0; law < 4; law++) {
            Run.with("vote " + laws[law] + ";").due(law, "told", 4);
        }
        Run.with("weather d;").due(0, "told", 4);
        for (String word : Run.RESERVED) {
            if (!List.of(laws).contains(word)) {
                fault(2, 5, "vote " + word + ";");
            }
        }
        fault(2, 4, "vote;");
        fault(2, 5, "vote 1;");
    }

    static void promise10VoteToldAlready() {
        fault(5, 9, "vote all;vote all;");
        fault(5, 11, "vote most; vote any;");
        fault(5, 9, "vote all;vote");
        fault(5, 9, "vote all;vote !");
        fault(5, 19, "vote all;weather d;vote 12345;");
        Run r = Run.with("vote all;");
        r.taken(0, "bench", "vote any;");
        r.due(2, "told", 4);
    }

    // ---- which fault is told

    static void promise10TheFirstFaultAlongTheText() {
        fault(4, 15, "farmer a ahead 9 fails 99 false !");
        fault(2, 8, "weather dx; vote ! 12345");
        fault(1, 4, "vote! all;vote all;");
        fault(3, 9, "dislikes a a 100;");
        fault(2, 18, "weather d;weather dx " + A + A);
    }

    static void promise10TheEndIsAtTheTextsLength() {
        fault(2, 6, "farmer");
        fault(2, 9, "farmer   ");
        fault(2, 8, "farmer \n");
        fault(2, 32, A.substring(0, 32));
        fault(2, 36, A.substring(0, 32) + " \n  ");
        Run r = new Run();
        r.tape("vote all;");
        r.ask("bench", 6);
        r.due(2, "fault", 0);
        r.due(5, "fault", 1);
        r.tape("vote all;");
        r.ask("bench", 5);
        r.due(2, "fault", 0);
        r.due(5, "fault", 1);
    }

    static void promise10TheEndWhereverATokenMustStand() {
        String text = Run.knees(2) + "farmer c behind 1 fails 2 false 3 elbow cured 4;dislikes a b 1;weather dr;"
                + "vote all;";
        for (int n = 0; n <= text.length(); n++) {
            String part = text.substring(0, n);
            if (part.isEmpty() || part.endsWith(";")) {
                new Run().taken(part.split("farmer").length - 1, "bench", part);
            } else {
                Run r = new Run();
                r.tape(text);
                r.no(9, "bench", n);
                r.ask("bench", n);
                r.due(2, "fault", 0);
                r.due(part.endsWith("weather d") ? n : Run.placeOfTheCut(text, n), "fault", 1);
            }
        }
    }

    static void promise10ANumberThatTheEndCuts() {
        String text = "farmer a ahead 0003 fails 0016 false 0016 cured 0060";
        for (int n = 15; n <= text.length(); n++) {
            boolean isSpaced = n == text.length() || text.charAt(n) == ' ' || text.charAt(n - 1) == ' '
                    || Character.isDigit(text.charAt(n));
            Run r = new Run();
            r.tape(text + "9999;");
            r.ask("bench", n);
            r.due(2, "fault", 0);
            r.due(isSpaced ? n : text.lastIndexOf(' ', n - 1) + 1, "fault", 1);
        }
        Run whole = new Run();
        whole.tape(text + ";");
        whole.due(1, "bench", text.length() + 1);
        whole.due(60, "farmer", 0, 4);
    }

    static void promise10ATokenAtTheEndOf900Bytes() {
        for (String last : new String[] {"farmer a ahead 1", "farmer a ahead 0001", "farmer a", "vote all", "weather drh",
            "farmer", "vote all;vote any"}) {
            Run r = new Run();
            r.tape(" ".repeat(900 - last.length()) + last);
            r.no(9, "bench", 900);
            r.ask("bench", 900);
            boolean isTwice = last.endsWith("any");
            r.due(isTwice ? 5 : 2, "fault", 0);
            r.due(isTwice ? 892 : 900, "fault", 1);
        }
        for (String last : new String[] {"12345", "999999999", "!"}) {
            new Run().faulty(1, 900 - last.length(), "bench", " ".repeat(900 - last.length()) + last);
        }
        Run blank = new Run();
        blank.taken(0, "bench", "vote any;" + " ".repeat(891));
        blank.due(2, "told", 4);
    }


    // ---- what fault() tells

    static void promise12OfTheLatestTextWithStatus0Or9() {
        Run r = new Run();
        r.due(NONE, "fault", 0);
        r.due(NONE, "fault", 1);
        r.ask("bench", 1);
        r.ask("season", -1);
        r.due(NONE, "fault", 0);
        r.due(NONE, "fault", 1);
        r.due(0, "bench", 0);
        r.due(0, "fault", 0);
        r.due(NONE, "fault", 1);
        r.tape("vote all;vote all;");
        r.ask("bench", 18);
        r.due(5, "fault", 0);
        r.due(9, "fault", 1);
        r.ask("bench", 1);
        r.ask("season", 301);
        r.due(5, "fault", 0);
        r.due(9, "fault", 1);
        r.tape("loop 0;");
        r.ask("season", 7);
        r.due(4, "fault", 0);
        r.due(5, "fault", 1);
        r.ask("mark");
        r.ask("back");
        r.due(4, "fault", 0);
        r.due(0, "season", 0);
        r.due(0, "fault", 0);
        r.due(NONE, "fault", 1);
        r.tape("!");
        r.ask("bench", 1);
        r.due(1, "fault", 0);
        r.due(0, "fault", 1);
    }

    static void promise12NoneForOthers() {
        Run faulty = new Run();
        faulty.tape("vote");
        faulty.ask("bench", 4);
        for (Run r : new Run[] {new Run(), faulty, Run.full()}) {
            for (int what : new int[] {-1, 2, 3, Integer.MIN_VALUE, Integer.MAX_VALUE}) {
                r.due(NONE, "fault", what);
            }
        }
    }
}
