import java.util.ArrayList;
import java.util.List;

/** What the document says of edges: promise 11, the text of a season, its faults. */
final class SeasonTextEdges {
    private static final int MOST = Integer.MAX_VALUE;
    private static final int LEAST = Integer.MIN_VALUE;
    private static final String[] STEPS = {"rain 1", "hail", "dry", "feel", "lie a on 1", "cure a on 1", "brandy a 1",
        "learn 1", "stop"};

    private SeasonTextEdges() {
    }

    private static Run bench() {
        return Run.with(Run.knees(2));
    }

    private static void isTaken(long steps, String text) {
        bench().taken(steps, "season", text);
    }

    private static void fault(int kind, int place, String text) {
        bench().faulty(kind, place, "season", text);
    }

    /** A step that ends with a number: which numbers can be. */
    private static void numbers(String step, int least, int most) {
        String end = step.startsWith("when") || step.startsWith("loop") ? "end;" : "";
        for (int n : new int[] {least, least + 1, most - 1, most}) {
            isTaken(1, step + n + ";" + end);
        }
        if (least > 0) {
            fault(4, step.length(), step + (least - 1) + ";" + end);
        }
        fault(4, step.length(), step + (most + 1) + ";" + end);
        fault(4, step.length(), step + "9999;" + end);
        fault(1, step.length(), step + "00001;" + end);
        fault(1, step.length(), step + "10000;" + end);
        fault(2, step.length(), step + "a;" + end);
        fault(2, step.length(), step + ";" + end);
        fault(2, step.length(), step);
    }

    // ---- how much of the tape is read

    static void promise11Ranges() {
        bench().range(1, "season", 0, 0, 0, 0);
        Run.some().range(1, "season", 0, 0, 20, 0);
        Run.full().range(1, "season", 0, 0, 300, 0);
        Run r = bench();
        r.tape(" ".repeat(300));
        r.range(1, "season", 0, 0, 300, 0);
        r = bench();
        r.tape(" ".repeat(320));
        r.range(1, "season", 0, 0, 300, 0);
        r.no(1, "season", 320);
        r.no(1, "season", 321);
        r = bench();
        r.tape(" ".repeat(280));
        r.range(1, "season", 0, 0, 280, 0);
        for (int n : new int[] {LEAST, -1, 1, 300, 301, MOST}) {
            new Run().no(1, "season", n);
        }
    }

    static void promise11TheFirstBytesOfTheTapeAndTheRestIsGone() {
        Run r = bench();
        r.tape("dry;hail;hail;");
        r.due(2, "season", 9);
        r.due(20, "feed", 0x20202020, 0x20202020, 0x20202020, 0x20202020, 0x20202020);
        r.due(2, "live", 0);
        r.weather("dh");
        r.tape("dry;!");
        r.due(0, "season", 20);
        r = bench();
        r.tape("dry;!");
        r.due(1, "season", 4);
        r.due(20, "feed", 0, 0, 0, 0, 0);
    }

    static void promise11ATextOf300Bytes() {
        isTaken(1, " ".repeat(296) + "dry;");
        fault(2, 300, " ".repeat(297) + "dry");
        Run r = bench();
        r.tape(" ".repeat(297) + "dry;");
        r.no(1, "season", 301);
        r.no(9, "season", 300);
        r.ask("season", 300);
        r.due(2, "fault", 0);
        r.due(300, "fault", 1);
    }

    static void promise11AnEmptyTextIsASeasonOfNoSteps() {
        Run r = bench();
        r.no(6, "live", 0);
        r.taken(0, "season", "");
        r.due(0, "live", 0);
        r.row(0, "lived", new long[0], 0, 0, 0, 0);
        r.fraction(0, 1, "mean", 0, 1);
        r.taken(0, "season", " \n ");
        new Run().taken(0, "season", "");
        new Run().taken(2, "season", "dry;hail;");
    }

    static void promise11ANewOneIsThereInPlaceOfTheOld() {
        Run r = bench().season("dry;dry;dry;");
        r.taken(1, "season", "hail;");
        r.due(1, "live", 0);
        r.weather("h");
        r.taken(0, "season", "");
        r.due(0, "live", 0);
        r.weather("h");
    }

    static void promise11WithAFaultTheOldOneStays() {
        for (String text : new String[] {"hail;dry", "loop 2;hail;", "lie z on 1;", "rain 17;", "loop 1;".repeat(4)}) {
            Run r = Run.some().then("bench", 0);
            r.taken(1, "bench", Run.knees(1) + "weather d;");
            r.season("dry;lie a on 0;");
            r.tape(text);
            r.no(9, "season", text.length());
            r.ask("season", text.length());
            r.due(2, "live", 0);
            r.weather("dd");
            r.felt(0, "10");
        }
    }

    // ---- numbers

    static void promise11Rain0To16() {
        numbers("rain ", 0, 16);
    }

    static void promise11LieOn0To59() {
        numbers("lie a on ", 0, 59);
    }

    static void promise11CureOn0To60() {
        numbers("cure b on ", 0, 60);
    }

    static void promise11Brandy0To16() {
        numbers("brandy a ", 0, 16);
    }

    static void promise11Learn0To59() {
        numbers("learn ", 0, 59);
    }

    static void promise11Loop1To99() {
        numbers("loop ", 1, 99);
    }

    static void promise11WhenSays0To62() {
        numbers("when says ", 0, 62);
    }

    static void promise11WhenTrust0To64() {
        for (String sign : new String[] {"<", ">", "="}) {
            numbers("when trust b " + sign, 0, 64);
        }
    }

    static void promise11WhenDays0To60() {
        for (String sign : new String[] {"<", ">", "="}) {
            numbers("when days " + sign + " ", 0, 60);
        }
    }

    // ---- words, signs, names

    static void promise11WordsThatBeginNoStep() {
        List<String> words = new ArrayList<>(Run.RESERVED);
        words.removeAll(List.of("rain", "hail", "dry", "feel", "lie", "cure", "brandy", "learn", "when", "loop", "stop"));
        words.addAll(List.of("a", "rainy", "hai"));
        for (String word : words) {
            fault(2, 0, word + ";");
            fault(2, 4, "dry;" + word + " 1;");
        }
        fault(2, 0, ";");
        fault(2, 0, "1;");
        fault(2, 0, "<");
        fault(1, 0, "Rain 1;");
        fault(2, 5, "when feel;end;");
        fault(2, 5, "when rain 1;end;");
        fault(2, 5, "when 1;end;");
        fault(2, 4, "when;end;");
    }

    static void promise11EachByteAlone() {
        for (int c = 0; c < 256; c++) {
            String text = String.valueOf((char) c);
            if (Run.faultOfByte(c) == 0) {
                isTaken(0, text);
            } else {
                fault(Run.faultOfByte(c), 0, text);
            }
        }
    }

    static void promise11Compares() {
        for (String sign : new String[] {";", "a", "1"}) {
            fault(2, 13, "when trust a " + sign + " 1;end;");
            fault(2, 10, "when days " + sign + " 1;end;");
        }
        fault(1, 13, "when trust a ! 1;end;");
        fault(2, 12, "when days < < 1;end;");
        fault(2, 11, "when days <= 1;end;");
        fault(2, 10, "when says < 1;end;");
        isTaken(1, "when trust a<1;end;");
        isTaken(1, "when days>1 ; end ;");
        isTaken(1, "when days=1;end;");
    }

    static void promise11Names() {
        for (String step : new String[] {"lie ", "cure ", "brandy ", "when trust "}) {
            String rest = step.startsWith("when") ? "<1;end;" : step.equals("brandy ") ? " 1;" : " on 1;";
            int at = step.length();
            isTaken(1, step + "a" + rest);
            isTaken(1, step + "b" + rest);
            fault(3, at, step + "c" + rest);
            fault(3, at, step + "aa" + rest);
            fault(3, at, step + "zzzzzzzz" + rest);
            fault(2, at, step + "zzzzzzzzz" + rest);
            fault(2, at, step + "aaaaaaaaa" + rest);
            fault(2, at, step + "stop" + rest);
            fault(2, at, step + "farmer" + rest);
            fault(2, at, step + "on" + rest);
            fault(2, at, step + "1" + rest);
            fault(2, at, step + ";");
            new Run().faulty(3, at, "season", step + "a" + rest);
        }
        Run old = Run.with("farmer c" + Run.KNEE);
        old.taken(1, "season", "lie c on 1;");
        old.taken(2, "bench", Run.knees(2));
        old.faulty(3, 4, "season", "lie c on 1;");
        Run eight = Run.with(Run.knees(8));
        eight.taken(2, "season", "lie h on 1;brandy a 1;");
        eight.faulty(3, 4, "season", "lie i on 1;");
    }

    static void promise11WhatMustStandBehindAStep() {
        for (String step : STEPS) {
            isTaken(1, step + ";");
            fault(2, step.length(), step);
            fault(2, step.length() + 1, step + " dry;");
            fault(2, step.length() + 1, step + " <");
            fault(2, step.length() + 1, step + ";;");
            fault(1, step.length() + 1, step + " !");
        }
        fault(2, 6, "lie a 1;");
        fault(2, 7, "cure a at 1;");
        fault(2, 9, "brandy a on 1;");
        fault(2, 5, "hail 1;");
    }

    // ---- how many, how deep, ends

    static void promise11ThirtyStepsAndNo31st() {
        isTaken(29, "dry;".repeat(29));
        isTaken(30, "dry;".repeat(30));
        fault(6, 120, "dry;".repeat(31));
        fault(6, 120, "dry;".repeat(30) + "stop");
        fault(6, 120, "dry;".repeat(30) + "rain !");
        fault(6, 120, "dry;".repeat(30) + "when;");
        fault(6, 120, "dry;".repeat(30) + "loop 0;");
        fault(2, 120, "dry;".repeat(30) + "dri;");
        fault(2, 120, "dry;".repeat(30) + "says 1;");
        fault(1, 120, "dry;".repeat(30) + "!");
        isTaken(30, "dry;".repeat(30) + " ");
    }

    static void promise11EndIsNoStep() {
        isTaken(27, "loop 1;end;".repeat(27));
        isTaken(30, "loop 1;".repeat(3) + "dry;".repeat(27) + "end;".repeat(3));
        isTaken(30, "dry;".repeat(29) + "loop 1;end;");
        isTaken(30, "dry;".repeat(21) + "loop 1;loop 1;loop 1;end;end;end;".repeat(3));
        String thirty = "dry;".repeat(26) + "loop 1;loop 1;loop 1;dry;end;end;end;";
        isTaken(30, thirty);
        // With no blanks thirty ends find room, too.
        isTaken(30, "loop1;end;".repeat(30));
        isTaken(30, "loop1;loop1;loop1;end;end;end;".repeat(10));
        fault(6, thirty.length(), thirty + "hail;");
        fault(2, thirty.length(), thirty + "end;");
        fault(6, 123, "dry;".repeat(29) + "loop 1;dry;end;");
    }

    static void promise11WhensAndLoopsWithinThreeOthers() {
        String[] openers = {"loop 1;", "when days<1;"};
        for (String first : openers) {
            for (String second : openers) {
                for (String third : openers) {
                    String three = first + second + third;
                    isTaken(3, three + "end;end;end;");
                    isTaken(4, three + "dry;end;end;end;");
                    isTaken(5, three + "end;" + first + "end;end;" + second + "end;end;");
                    fault(7, three.length(), three + "loop 1;end;end;end;end;");
                    fault(7, three.length(), three + "when says 1;end;end;end;end;");
                    fault(7, three.length(), three + "loop");
                    fault(7, three.length(), three + "when !");
                    fault(7, three.length() + 4, three + "dry;loop 0;");
                    fault(7, three.length() + 4 + first.length(), three + "end;" + first + "loop 1;");
                }
            }
        }
    }

    static void promise11OfOneTokenTheLeastKind() {
        String three = "dry;".repeat(27) + "loop 1;".repeat(3);
        fault(6, three.length(), three + "loop 1;");
        fault(6, three.length(), three + "when days<1;");
        String fewer = "dry;".repeat(26) + "loop 1;".repeat(3);
        fault(7, fewer.length(), fewer + "loop 1;");
        fault(2, three.length(), three + "loops 1;");
        fault(2, 4, "lie aaaaaaaaa on 1;");
        fault(1, 5, "rain 99999;");
    }

    static void promise11AnEndWithoutABeginning() {
        fault(2, 0, "end;");
        fault(2, 0, "end");
        fault(2, 4, "dry;end;");
        fault(2, 11, "loop 1;end;end;");
        fault(2, 120, "dry;".repeat(30) + "end;");
        isTaken(1, "loop 1;end;");
        fault(2, 11, "loop 1;end dry;");
        fault(2, 11, "loop 1;end 1;");
    }

    static void promise11TheTextsEndAheadOfAnEnd() {
        fault(2, 7, "loop 1;");
        fault(2, 12, "when days<1;");
        fault(2, 11, "loop 1;dry;");
        fault(2, 9, "loop 1;  ");
        fault(2, 18, "loop 1;loop 1;end;");
        fault(2, 10, "loop 1;end");
        fault(2, 127, "dry;".repeat(29) + "loop 1;    ");
    }

    static void promise11TheFirstFaultAlongTheText() {
        fault(4, 5, "rain 17;end;");
        fault(3, 4, "lie c on 60;");
        fault(4, 9, "lie a on 60;!");
        fault(2, 3, "dry");
        fault(1, 3, "dry!");
        fault(7, 21, "loop 1;loop 1;loop 1;loop 0;");
        fault(4, 5, "loop 0;loop 1;loop 1;loop 1;");
    }

    static void promise11TheEndWhereverATokenMustStand() {
        String text = "rain 3;lie a on 4;cure b on 5;brandy a 6;learn 7;stop;hail;dry;feel;";
        int steps = 0;
        for (int n = 0; n <= text.length(); n++) {
            String part = text.substring(0, n);
            if (part.endsWith(";")) {
                steps++;
            }
            Run r = bench();
            r.tape(text);
            if (part.isEmpty() || part.endsWith(";")) {
                r.due(steps, "season", n);
            } else {
                r.no(9, "season", n);
                r.ask("season", n);
                r.due(2, "fault", 0);
                r.due(Run.placeOfTheCut(text, n), "fault", 1);
            }
        }
    }

}
