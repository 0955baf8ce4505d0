import java.lang.reflect.InvocationTargetException;
import java.lang.reflect.Method;
import java.util.ArrayList;
import java.util.Arrays;
import java.util.List;
import java.util.Map;
import java.util.Set;
import java.util.TreeMap;
import java.util.TreeSet;

/**
 * A run of calls on a new object, by their names, each held against the answer that is due. It remembers its calls, so
 * that it can be made again: what a refused call leaves as it was is seen by two like runs, one with that call and one
 * without it, of which all that can be asked is asked. No object is asked more often than the document allows.
 */
final class Run {
    static final Check C = new Check("EdgesTest");
    static final List<String> RESERVED = List.of("farmer", "ahead", "behind", "fails", "false", "elbow", "cured",
            "dislikes", "weather", "vote", "most", "weights", "any", "all", "rain", "dry", "hail", "feel", "lie", "on",
            "cure", "brandy", "learn", "when", "says", "trust", "days", "loop", "end", "stop");
    static final String KNEE = " ahead 0 fails 0 false 0;";
    /** Which calls were answered, and which were refused with which STATUS: "tray", "tray 1". */
    static final Set<String> SEEN = new TreeSet<>();

    private static final int MOST_CALLS = 512;
    private static final int MOST_BYTES = 900;
    private static final int TEXT_FAULT = 9;
    private static final int ANSWERED = 0;
    private static final Set<String> WITHOUT_STATUS = Set.of("status", "top", "bottom", "feed", "fault");
    private static final Map<String, Method> METHODS = new TreeMap<>();

    static {
        for (Method m : KneeBench.class.getDeclaredMethods()) {
            METHODS.put(m.getName(), m);
        }
    }

    /** A call by its name; booleans are 1 and 0. */
    private record Call(String name, long... args) {
        @Override
        public String toString() {
            return name + Arrays.toString(args).replace('[', '(').replace(']', ')');
        }

        boolean isBoolean() {
            return METHODS.get(name).getReturnType() == boolean.class;
        }

        boolean hasStatus() {
            return !WITHOUT_STATUS.contains(name);
        }

        long on(KneeBench x) {
            Method m = METHODS.get(name);
            Class<?>[] types = m.getParameterTypes();
            Object[] given = new Object[args.length];
            for (int i = 0; i < args.length; i++) {
                given[i] = types[i] == long.class ? (Object) args[i]
                        : types[i] == boolean.class ? (Object) (args[i] != 0) : (Object) (int) args[i];
            }
            try {
                Object answer = m.invoke(x, given);
                return answer instanceof Boolean ? (Boolean) answer ? 1 : 0 : ((Number) answer).longValue();
            } catch (IllegalAccessException | InvocationTargetException e) {
                throw new IllegalStateException(this + " did not answer", e);
            }
        }
    }

    private static final Call STATUS = new Call("status");
    private static final Call TOP = new Call("top");
    private static final Call NEVER_ANSWERED = new Call("told", -1);

    private final KneeBench x = new KneeBench();
    private final List<Call> calls = new ArrayList<>();
    private int asked = 0;

    // ---- what the tests of several promises ask for

    /** A call whose first argument is a FARMER. */
    static void farmerRange(String name, long... args) {
        List<Run> runs = new ArrayList<>(states());
        runs.add(with(knees(1) + "weather d;"));
        runs.add(with(knees(1) + "weather " + "r".repeat(60) + ";"));
        for (Run r : runs) {
            r.range(1, name, 0, 0, r.farmers() - 1, args);
        }
    }

    /** A call of a DAY from 0 to 62, which need not be there. */
    static void toldDayRange(String name) {
        for (Run r : states()) {
            r.range(1, name, 0, 0, 62, 0);
        }
    }

    /** Which FAULT a text of this byte alone has; 0 for a blank. */
    static int faultOfByte(int c) {
        if (c == 10 || c == 32) {
            return 0;
        }
        return isSmall(c) || c >= '0' && c <= '9' || ";<>=".indexOf(c) >= 0 ? 2 : 1;
    }

    private static boolean isSmall(int c) {
        return c >= 'a' && c <= 'z';
    }

    /** Where the FAULT is, if the text ends behind so many bytes: at its end, or at a word that it cuts. */
    static int placeOfTheCut(String text, int n) {
        boolean isWordCut = isSmall(text.charAt(n - 1)) && isSmall(text.charAt(n));
        return isWordCut ? Math.max(text.lastIndexOf(' ', n - 1), text.lastIndexOf(';', n - 1)) + 1 : n;
    }

    // ---- how runs begin

    /** A new object with such a bench. */
    static Run with(String bench) {
        Run r = new Run();
        r.mustBeTaken("bench", bench);
        return r;
    }

    /** So many farmers a, b, c .. who feel each day as it is. */
    static String knees(int many) {
        StringBuilder b = new StringBuilder();
        for (char c = 'a'; c < 'a' + many; c++) {
            b.append("farmer ").append(c).append(KNEE);
        }
        return b.toString();
    }

    /** Something of everything: trays, bytes on the tape, a fraction, seats, a season that was lived, a mark. */
    static Run some() {
        return with("farmer a ahead 1 fails 3 false 2;farmer b behind 2 fails 0 false 9 elbow;farmer c" + KNEE
                + "dislikes a b 7;dislikes b c 99;weather rdhrdd;vote weights;")
                .season("rain 9;when days>3;feel;lie c on 2;learn 3;end;")
                .then("tray", 0, 0, 3).then("write", 0, 1, -1).then("tray", 2, 3, 1).then("write", 2, 0, 1L << 40)
                .then("mark").then("live", 11).then("seats").then("weigh", 1, 20).then("trust", 0)
                .then("feed", 0x76202020, 0, 0, 0, 0);
    }

    /** All that there can be: farmers, days, marks, steps, bytes, places. */
    static Run full() {
        StringBuilder season = new StringBuilder("loop 9;loop 9;loop 9;feel;end;end;end;");
        for (int i = 4; i < 30; i++) {
            season.append(i % 2 == 0 ? "dry;" : "learn 7;");
        }
        Run r = with(knees(8) + "dislikes a b 5;weather " + "rdhd".repeat(15) + ";").season(season.toString());
        for (int i = 0; i < 3; i++) {
            r.then("lie", i, i).then("mark");
        }
        for (int tray = 0; tray < 4; tray++) {
            r.then("tray", tray, tray, 60).then("write", tray, 59, -7);
        }
        r.then("live", 4).then("seats").then("trust", 1);
        for (int i = 0; i < 45; i++) {
            r.then("feed", 0x3b3b3b3b, 0, 0, 0, 0);
        }
        return r;
    }

    /** Nothing, something, all that there can be. */
    static List<Run> states() {
        return List.of(new Run(), some(), full());
    }

    Run season(String text) {
        mustBeTaken("season", text);
        return this;
    }

    private void mustBeTaken(String name, String text) {
        tape(text);
        if (ask(name, text.length()) < 0) {
            throw new IllegalStateException("a test's own " + name + " is faulty at " + x.fault(1) + ": " + text);
        }
    }

    int farmers() {
        return (int) copy().ask("told", 0);
    }

    int days() {
        return (int) copy().ask("told", 1);
    }

    Run copy() {
        Run r = new Run();
        for (Call c : calls) {
            r.keep(c);
        }
        return r;
    }

    // ---- calls

    private long keep(Call c) {
        calls.add(c);
        return answer(c);
    }

    private long answer(Call c) {
        asked++;
        if (asked > MOST_CALLS) {
            throw new IllegalStateException("a test asks one object too often");
        }
        return c.on(x);
    }

    /** A call that is only made. */
    long ask(String name, long... args) {
        return keep(new Call(name, args));
    }

    /** A call of this run, of which nothing is due yet. */
    Run then(String name, long... args) {
        ask(name, args);
        return this;
    }

    /** A call that must be answered, with STATUS 0 behind a call that was refused. */
    void due(long want, String name, long... args) {
        Call c = new Call(name, args);
        if (c.hasStatus()) {
            answer(NEVER_ANSWERED);
        }
        C.due(c.toString(), keep(c), want);
        if (c.hasStatus()) {
            C.due("status() behind " + c, answer(STATUS), 0);
        }
        SEEN.add(name);
    }

    /** A call that tells a fraction. */
    void fraction(long top, long bottom, String name, long... args) {
        due(1, name, args);
        due(top, "top");
        due(bottom, "bottom");
    }

    /** A call that must be refused: the STATUS that is due first, NONE or false, and all else as it was. */
    void no(int status, String name, long... args) {
        Call c = new Call(name, args);
        SEEN.add(name + " " + status);
        changesNothing(c, status);
    }

    /** A call that is answered and changes nothing but the fraction. */
    void leaves(String name, long... args) {
        changesNothing(new Call(name, args), ANSWERED);
    }

    /** All that these calls can be asked of farmers and days is as in another run. */
    void isLike(Run other, String... names) {
        for (Call c : other.reads(0)) {
            if (List.of(names).contains(c.name)) {
                C.due(c + " as in the other run", answer(c), other.answer(c));
            }
        }
    }

    /** Whatever is asked of so many farmers is answered as in another run, but for these calls. */
    void tellsLike(Run other, int farmers, String... but) {
        List<Call> asking = new ArrayList<>();
        for (Call c : everyQuestion(farmers)) {
            if (!List.of(but).contains(c.name)) {
                asking.add(c);
            }
        }
        int room = (MOST_CALLS - Math.max(calls.size(), other.calls.size())) / 3;
        for (int i = 0; i < asking.size(); i += room) {
            Run one = copy();
            Run two = other.copy();
            for (Call c : asking.subList(i, Math.min(i + room, asking.size()))) {
                C.due(c + " as in the other run", one.answer(c), two.answer(c));
                C.due("status() of " + c + " as in the other run", one.answer(STATUS), two.answer(STATUS));
                boolean isFraction = List.of("trust", "odds", "hay").contains(c.name);
                if (isFraction) {
                    C.due("top() of " + c + " as in the other run", one.answer(TOP), two.answer(TOP));
                }
            }
        }
    }

    private static List<Call> everyQuestion(int farmers) {
        List<Call> list = new ArrayList<>();
        for (String name : List.of("kept", "truest", "silent", "bestLaw", "fever")) {
            add(list, name);
        }
        for (int what = 0; what < 5; what++) {
            for (String name : List.of("told", "keptBy", "spell", "lies", "warned", "fewest")) {
                add(list, name, what);
            }
        }
        for (int f = 0; f < farmers; f++) {
            questionsOfOne(list, f, farmers);
        }
        for (int d = 0; d < 63; d++) {
            for (String name : List.of("says", "tips", "believers", "flips", "sure", "weather", "nextWrong")) {
                add(list, name, d);
            }
            add(list, "span", d, 62);
            add(list, "wedding", d / 2, d);
            add(list, "odds", d, 1 + d % 15);
            add(list, "hay", d, 1 + d % 3, 1 + d % 15);
        }
        return list;
    }

    private static void questionsOfOne(List<Call> list, int f, int farmers) {
        for (String name : List.of("right", "trust", "toldBy", "lag", "quiet", "useful", "mood", "foe", "rival", "streak",
                "agrees")) {
            add(list, name, f);
        }
        for (int other = 0; other < farmers; other++) {
            for (String name : List.of("dislikes", "alike", "clashes")) {
                add(list, name, f, other);
            }
        }
        for (int what = 0; what < 7; what++) {
            add(list, "farmer", f, what);
            add(list, "wrongs", f, what);
            add(list, "fits", f, what - 3);
        }
        for (int d = 0; d < 63; d++) {
            for (String name : List.of("should", "twinges", "tells")) {
                add(list, name, f, d);
            }
        }
    }

    /** The same call with one argument beyond its bounds, and within them. */
    void range(int status, String name, int at, long least, long most, long... args) {
        boolean isLong = METHODS.get(name).getParameterTypes()[at] == long.class;
        Set<Long> outside = new TreeSet<>(List.of(least - 1, most + 1,
                isLong ? Long.MIN_VALUE : Integer.MIN_VALUE, isLong ? Long.MAX_VALUE : Integer.MAX_VALUE));
        for (long v : outside) {
            no(status, name, with(args, at, v));
        }
        for (long v : new TreeSet<>(List.of(least, Math.min(most, least + 1), Math.max(least, most - 1), most))) {
            if (v >= least && v <= most) {
                Run r = copy();
                Call c = new Call(name, with(args, at, v));
                r.answer(c);
                C.due("status() behind " + c + " is " + status, r.answer(STATUS) == status, false);
            }
        }
    }

    private static long[] with(long[] args, int at, long v) {
        long[] other = args.clone();
        other[at] = v;
        return other;
    }

    // ---- texts

    /** Puts a text on the tape, filled up with bytes of 0. */
    void tape(String text) {
        for (int i = 0; i < text.length(); i += 20) {
            ask("feed", Check.four(text, i), Check.four(text, i + 4), Check.four(text, i + 8), Check.four(text, i + 12),
                    Check.four(text, i + 16));
        }
    }

    /** A text that must be taken. */
    void taken(long want, String name, String text) {
        tape(text);
        due(want, name, text.length());
        due(0, "fault", 0);
        due(KneeBench.NONE, "fault", 1);
    }

    /** A text that must be refused with such a FAULT; the season of this run is an empty one then. */
    void faulty(int kind, int place, String name, String text) {
        Run r = copy();
        r.tape(text);
        r.changesNothing(new Call(name, text.length()), TEXT_FAULT);
        SEEN.add(name + " " + TEXT_FAULT);
        r.ask(name, text.length());
        C.due("fault(0) of " + name + " '" + text + "'", r.ask("fault", 0), kind);
        C.due("fault(1) of " + name + " '" + text + "'", r.ask("fault", 1), place);
        C.due("the tape is empty behind " + name + " '" + text + "'", r.ask("feed", 0, 0, 0, 0, 0), 20);
    }

    static void benchFault(int kind, int place, String text) {
        new Run().faulty(kind, place, "bench", text);
    }

    // ---- rows of answers

    /** One call for each number from 0 on; NONE is due with that STATUS. */
    void row(int status, String name, long[] ahead, long... want) {
        for (int i = 0; i < want.length; i++) {
            long[] args = Arrays.copyOf(ahead, ahead.length + 1);
            args[ahead.length] = i;
            Call c = new Call(name, args);
            answer(NEVER_ANSWERED);
            C.due(c.toString(), answer(c), want[i]);
            C.due("status() behind " + c, answer(STATUS), want[i] == KneeBench.NONE ? status : 0);
        }
        SEEN.add(name);
    }

    void felt(int farmer, String want) {
        C.due("days there", ask("told", 1), want.length());
        row(0, "twinges", new long[] {farmer}, want.chars().mapToLong(c -> c - '0').toArray());
    }

    void shoulds(int farmer, String want) {
        C.due("days there", ask("told", 1), want.length());
        row(0, "should", new long[] {farmer}, want.chars().mapToLong(c -> c - '0').toArray());
    }

    void weather(String want) {
        C.due("days there", ask("told", 1), want.length());
        row(0, "weather", new long[0], want.chars().mapToLong("drh"::indexOf).toArray());
    }

    // ---- two like runs, one with a refused call

    private void changesNothing(Call refused, int status) {
        List<Call> reads = reads(status);
        int room = (MOST_CALLS - calls.size() - 4) / 2;
        for (int i = 0; i < reads.size(); i += room) {
            compare(refused, status, reads.subList(i, Math.min(i + room, reads.size())));
        }
        compare(refused, status, traySorts());
        compare(refused, status, lives());
        compare(refused, status, marks());
        compare(refused, status, names());
        if (status != TEXT_FAULT) {
            compare(refused, status, tapes());
        }
    }

    private void compare(Call refused, int status, List<Call> asking) {
        Run other = copy();
        Run one = copy();
        long got = one.answer(refused);
        if (status != ANSWERED) {
            C.due(refused + " after " + calls.size() + " calls", got, refused.isBoolean() ? 0 : KneeBench.NONE);
            C.due("status() behind " + refused, one.answer(STATUS), status);
        }
        for (Call c : asking) {
            C.due(c + " behind a refused " + refused, one.answer(c), other.answer(c));
            if (c.hasStatus()) {
                C.due("status() of " + c + " behind a refused " + refused, one.answer(STATUS),
                        other.answer(STATUS));
            }
        }
    }

    private static void add(List<Call> list, String name, long... args) {
        list.add(new Call(name, args));
    }

    /** All that can be read without a change. */
    private List<Call> reads(int status) {
        List<Call> list = new ArrayList<>();
        if (status != ANSWERED) {
            add(list, "top");
            add(list, "bottom");
        }
        if (status != TEXT_FAULT) {
            add(list, "fault", 0);
            add(list, "fault", 1);
        }
        for (int what = 0; what < 5; what++) {
            add(list, "told", what);
            add(list, "lived", what);
        }
        add(list, "kept");
        Run looking = copy();
        int farmers = farmers();
        int days = days();
        for (int f = 0; f < farmers; f++) {
            readFarmer(list, f, farmers, days);
        }
        for (int d = 0; d < days; d++) {
            add(list, "weather", d);
        }
        for (int k = 0; k < 9; k++) {
            add(list, "seatAt", k);
        }
        for (int tray = 0; tray < 4; tray++) {
            looking.readTray(list, tray);
        }
        return list;
    }

    private static void readFarmer(List<Call> list, int f, int farmers, int days) {
        for (int what = 0; what < 7; what++) {
            add(list, "farmer", f, what);
        }
        for (int other = 0; other <= f; other++) {
            add(list, "dislikes", f, other);
        }
        for (int d = 0; d < days; d++) {
            add(list, "twinges", f, d);
        }
    }

    private void readTray(List<Call> list, int tray) {
        int place = 0;
        boolean isThere = true;
        while (isThere) {
            add(list, "read", tray, place);
            x.read(tray, place);
            isThere = x.status() == 0;
            place++;
        }
    }

    private static List<Call> traySorts() {
        List<Call> list = new ArrayList<>();
        for (int tray = 0; tray < 4; tray++) {
            add(list, "write", tray, 0, 0x89abcdef89abcdefL);
            add(list, "read", tray, 0);
        }
        return list;
    }

    private static List<Call> lives() {
        List<Call> list = new ArrayList<>();
        add(list, "mean", 5, 2);
        add(list, "top");
        add(list, "bottom");
        add(list, "live", 77);
        look(list);
        return list;
    }

    private static void look(List<Call> list) {
        for (int what = 0; what < 4; what++) {
            add(list, "lived", what);
            add(list, "told", what);
        }
        for (int f = 0; f < 8; f++) {
            add(list, "farmer", f, 5);
            add(list, "farmer", f, 6);
        }
        add(list, "kept");
    }

    private static List<Call> marks() {
        List<Call> list = new ArrayList<>();
        add(list, "mark");
        for (int i = 0; i < 4; i++) {
            add(list, "back");
            look(list);
            add(list, "live", 3);
            add(list, "told", 1);
        }
        return list;
    }

    /** Names can be asked for by a season alone. */
    private static List<Call> names() {
        List<Call> list = new ArrayList<>();
        add(list, "season", 0);
        String text = "";
        for (char c = 'a'; c < 'i'; c++) {
            text = text + "cure " + c + " on 1;";
            Run feeding = new Run();
            feeding.tape(text);
            list.addAll(feeding.calls);
            add(list, "season", text.length());
        }
        add(list, "live", 0);
        look(list);
        return list;
    }

    private List<Call> tapes() {
        List<Call> list = new ArrayList<>();
        long filled = copy().ask("feed", 0, 0, 0, 0, 0);
        add(list, "feed", 0x766f7465, 0x20616c6c, 0x3b202020, 0x20202020, 0x20202020);
        long all = filled == KneeBench.NONE ? MOST_BYTES : filled;
        add(list, "bench", all + 1);
        add(list, "bench", all);
        add(list, "fault", 0);
        add(list, "fault", 1);
        add(list, "told", 4);
        add(list, "feed", 0, 0, 0, 0, 0);
        return list;
    }
}
