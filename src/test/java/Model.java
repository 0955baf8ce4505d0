import java.util.ArrayList;
import java.util.Arrays;
import java.util.List;

/**
 * The document once more, word by word and as plainly as can be: day by day, farmer by farmer, every row
 * of seats, every lie told and taken back. It shares nothing with KneeBench, so that ModelTest can hold
 * the answers of both against each other.
 */
final class Model {
    /** A call that ends with another STATUS than 0. */
    private static final class Refused extends RuntimeException {
        private static final long serialVersionUID = 1L;
        final int status;

        Refused(int status) {
            super(null, null, false, false);
            this.status = status;
        }
    }

    /** A FAULT of a text. */
    private static final class Faulty extends RuntimeException {
        private static final long serialVersionUID = 1L;
        final int kind;
        final int place;

        Faulty(int kind, int place) {
            super(null, null, false, false);
            this.kind = kind;
            this.place = place;
        }
    }

    private static final List<String> RESERVED = Arrays.asList("farmer", "ahead", "behind", "fails", "false",
            "elbow", "cured", "dislikes", "weather", "vote", "most", "weights", "any", "all", "rain", "dry", "hail",
            "feel", "lie", "on", "cure", "brandy", "learn", "when", "says", "trust", "days", "loop", "end", "stop");
    private static final List<String> LAWS = Arrays.asList("most", "weights", "any", "all");

    static final class Farmer {
        String name;
        int lag;
        int fails;
        int falses;
        boolean elbow;
        Integer cured;
        int weight = 64;
        List<Boolean> felt = new ArrayList<>();

        Farmer copy() {
            Farmer f = new Farmer();
            f.name = name;
            f.lag = lag;
            f.fails = fails;
            f.falses = falses;
            f.elbow = elbow;
            f.cured = cured;
            f.weight = weight;
            f.felt = new ArrayList<>(felt);
            return f;
        }
    }

    static final class State {
        List<Farmer> farmers = new ArrayList<>();
        int[][] dislikes = new int[8][8];
        StringBuilder weather = new StringBuilder();
        int vote;
        List<Step> season;
        int seasonSteps;

        State copy() {
            State s = new State();
            for (Farmer f : farmers) {
                s.farmers.add(f.copy());
            }
            for (int i = 0; i < 8; i++) {
                s.dislikes[i] = dislikes[i].clone();
            }
            s.weather = new StringBuilder(weather);
            s.vote = vote;
            s.season = season;
            s.seasonSteps = seasonSteps;
            return s;
        }
    }

    static final class Step {
        String word;
        String test;
        int farmer;
        char sign;
        int number;
        List<Step> inner;
    }

    State now = new State();
    final List<State> marks = new ArrayList<>();
    final long[][] trays = new long[4][];
    final int[] sorts = new int[4];
    StringBuilder tape = new StringBuilder();
    int status;
    long top = 0;
    long bottom = 1;
    int fault = -1;
    int faultPlace = -1;
    int[] seats = new int[0];
    int[] lived;

    // ---- the call by its name

    long call(String name, long... a) {
        int[] i = new int[a.length];
        for (int k = 0; k < a.length; k++) {
            i[k] = (int) a[k];
        }
        switch (name) {
            case "status":
                return status;
            case "top":
                return top;
            case "bottom":
                return bottom;
            case "feed":
                return feed(i);
            case "fault":
                return i[0] == 0 ? fault : i[0] == 1 ? faultPlace : -1;
            default:
                break;
        }
        boolean gives = !Arrays.asList("tray", "write", "pour", "twinge", "cure", "brandy", "trust", "weigh", "odds",
                "hay", "mean").contains(name);
        try {
            long answer = answer(name, i, a.length > 2 ? a[2] : 0);
            status = 0;
            return answer;
        } catch (Refused e) {
            status = e.status;
            return gives ? -1 : 0;
        }
    }

    private long answer(String name, int[] i, long v) {
        switch (name) {
            case "tray":
                need(in(i[0], 0, 3) && in(i[1], 0, 3) && in(i[2], 0, 60), 1);
                trays[i[0]] = new long[i[2]];
                sorts[i[0]] = i[1];
                return 1;
            case "write":
                place(i[0], i[1]);
                trays[i[0]][i[1]] = sorts[i[0]] == 0 ? (byte) v : sorts[i[0]] == 1 ? (short) v
                        : sorts[i[0]] == 2 ? (int) v : v;
                return 1;
            case "read":
                place(i[0], i[1]);
                return trays[i[0]][i[1]];
            case "pour":
                return pour(i[0], i[1], i[2], i[3], i[4]);
            case "bench":
                return bench(i[0]);
            case "season":
                return season(i[0]);
            case "told":
            case "farmer":
            case "dislikes":
            case "weather":
            case "should":
            case "twinges":
            case "twinge":
            case "feel":
            case "lie":
            case "cure":
            case "brandy":
            case "day":
            case "tells":
            case "wrongs":
                return felt(name, i);
            case "says":
            case "tips":
            case "right":
            case "trust":
            case "kept":
            case "learn":
            case "weigh":
            case "truest":
            case "odds":
            case "hay":
            case "wedding":
                return voted(name, i);
            case "live":
            case "lived":
            case "mean":
            case "mark":
            case "back":
                return lives(name, i);
            default:
                return needed(name, i);
        }
    }

    private static boolean in(int v, int a, int b) {
        return v >= a && v <= b;
    }

    private static void need(boolean holds, int status) {
        if (!holds) {
            throw new Refused(status);
        }
    }

    private void needFarmer(int f) {
        need(in(f, 0, now.farmers.size() - 1), 1);
    }

    private void needDay(int d) {
        need(in(d, 0, days() - 1), 1);
    }

    private int days() {
        return now.weather.length();
    }

    // ---- trays and tape

    private void place(int tray, int place) {
        need(in(tray, 0, 3), 1);
        need(trays[tray] != null, 2);
        need(in(place, 0, trays[tray].length - 1), 3);
    }

    private long pour(int from, int place, int to, int at, int many) {
        need(in(from, 0, 3) && in(to, 0, 3) && place >= 0 && at >= 0 && many >= 0, 1);
        need(trays[from] != null && trays[to] != null, 2);
        need(sorts[from] == sorts[to], 8);
        need((long) place + many <= trays[from].length && (long) at + many <= trays[to].length, 3);
        long[] was = Arrays.copyOfRange(trays[from], place, place + many);
        for (int k = 0; k < many; k++) {
            trays[to][at + k] = was[k];
        }
        return 1;
    }

    private long feed(int[] ints) {
        if (tape.length() + 20 > 900) {
            return -1;
        }
        for (int x : ints) {
            tape.append((char) (x >> 24 & 255)).append((char) (x >> 16 & 255));
            tape.append((char) (x >> 8 & 255)).append((char) (x & 255));
        }
        return tape.length();
    }

    // ---- texts

    private String text = "";
    private int at;
    private String token = "";
    private int tokenPlace;

    private void next() {
        while (at < text.length() && (text.charAt(at) == ' ' || text.charAt(at) == '\n')) {
            at++;
        }
        tokenPlace = at;
        if (at == text.length()) {
            token = "";
            return;
        }
        int end = at;
        if (small(text.charAt(at))) {
            while (end < text.length() && small(text.charAt(end))) {
                end++;
            }
        } else if (digit(text.charAt(at))) {
            while (end < text.length() && digit(text.charAt(end))) {
                end++;
            }
            if (end - at >= 5) {
                throw new Faulty(1, at);
            }
        } else if (";<>=".indexOf(text.charAt(at)) >= 0) {
            end++;
        } else {
            throw new Faulty(1, at);
        }
        token = text.substring(at, end);
        at = end;
    }

    private static boolean small(char c) {
        return c >= 'a' && c <= 'z';
    }

    private static boolean digit(char c) {
        return c >= '0' && c <= '9';
    }

    private void faultHere(int kind) {
        throw new Faulty(kind, tokenPlace);
    }

    private void pass(String wanted) {
        if (!token.equals(wanted)) {
            faultHere(2);
        }
        next();
    }

    private int number(int least, int most) {
        if (token.isEmpty() || !digit(token.charAt(0))) {
            faultHere(2);
        }
        int n = Integer.parseInt(token);
        if (!in(n, least, most)) {
            faultHere(4);
        }
        next();
        return n;
    }

    private void checkName() {
        if (token.isEmpty() || !small(token.charAt(0)) || token.length() > 8 || RESERVED.contains(token)) {
            faultHere(2);
        }
    }

    private static int named(State s, String name) {
        for (int f = 0; f < s.farmers.size(); f++) {
            if (s.farmers.get(f).name.equals(name)) {
                return f;
            }
        }
        return -1;
    }

    private int knownName(State s, int not) {
        checkName();
        int f = named(s, token);
        if (f < 0) {
            faultHere(3);
        }
        if (f == not) {
            faultHere(5);
        }
        next();
        return f;
    }

    private long bench(int n) {
        need(in(n, 0, tape.length()), 1);
        text = tape.substring(0, n);
        tape = new StringBuilder();
        try {
            now = parseBench();
        } catch (Faulty e) {
            fault = e.kind;
            faultPlace = e.place;
            throw new Refused(9);
        }
        fault = 0;
        faultPlace = -1;
        for (int f = 0; f < now.farmers.size(); f++) {
            for (int d = 0; d < days(); d++) {
                now.farmers.get(f).felt.add(should(f, d));
            }
        }
        return now.farmers.size();
    }

    private State parseBench() {
        State s = new State();
        boolean voted = false;
        at = 0;
        next();
        while (!token.isEmpty()) {
            switch (token) {
                case "farmer":
                    if (s.farmers.size() == 8) {
                        faultHere(6);
                    }
                    next();
                    parseFarmer(s);
                    break;
                case "dislikes":
                    next();
                    int a = knownName(s, -1);
                    int b = knownName(s, a);
                    s.dislikes[a][b] = number(0, 99);
                    s.dislikes[b][a] = s.dislikes[a][b];
                    break;
                case "weather":
                    next();
                    if (!token.matches("[drh]{1,60}")) {
                        faultHere(2);
                    }
                    if (s.weather.length() + token.length() > 60) {
                        faultHere(6);
                    }
                    s.weather.append(token);
                    next();
                    break;
                case "vote":
                    if (voted) {
                        faultHere(5);
                    }
                    voted = true;
                    next();
                    s.vote = LAWS.indexOf(token);
                    if (s.vote < 0) {
                        faultHere(2);
                    }
                    next();
                    break;
                default:
                    faultHere(2);
            }
            pass(";");
        }
        return s;
    }

    private void parseFarmer(State s) {
        checkName();
        if (named(s, token) >= 0) {
            faultHere(3);
        }
        Farmer f = new Farmer();
        f.name = token;
        next();
        if (token.equals("ahead")) {
            next();
            f.lag = number(0, 3);
        } else {
            pass("behind");
            f.lag = -number(1, 3);
        }
        pass("fails");
        f.fails = number(0, 16);
        pass("false");
        f.falses = number(0, 16);
        if (token.equals("elbow")) {
            f.elbow = true;
            next();
        }
        if (token.equals("cured")) {
            next();
            f.cured = number(0, 60);
        }
        s.farmers.add(f);
    }

    private int stepsRead;

    private long season(int n) {
        need(in(n, 0, tape.length()) && n <= 300, 1);
        text = tape.substring(0, n);
        tape = new StringBuilder();
        try {
            at = 0;
            stepsRead = 0;
            next();
            List<Step> steps = parseSteps(0);
            if (!token.isEmpty()) {
                faultHere(2);
            }
            now.season = steps;
            now.seasonSteps = stepsRead;
        } catch (Faulty e) {
            fault = e.kind;
            faultPlace = e.place;
            throw new Refused(9);
        }
        fault = 0;
        faultPlace = -1;
        return now.seasonSteps;
    }

    private List<Step> parseSteps(int depth) {
        List<Step> steps = new ArrayList<>();
        while (!token.isEmpty() && !token.equals("end")) {
            Step s = new Step();
            s.word = token;
            if (!Arrays.asList("rain", "hail", "dry", "feel", "lie", "cure", "brandy", "learn", "when", "loop", "stop")
                    .contains(token)) {
                faultHere(2);
            }
            stepsRead++;
            if (stepsRead > 30) {
                faultHere(6);
            }
            boolean holds = token.equals("when") || token.equals("loop");
            if (holds && depth == 3) {
                faultHere(7);
            }
            next();
            parseRest(s);
            pass(";");
            if (holds) {
                s.inner = parseSteps(depth + 1);
                pass("end");
                pass(";");
            }
            steps.add(s);
        }
        return steps;
    }

    private void parseRest(Step s) {
        switch (s.word) {
            case "rain":
                s.number = number(0, 16);
                break;
            case "lie":
            case "cure":
                s.farmer = knownName(now, -1);
                pass("on");
                s.number = number(0, s.word.equals("lie") ? 59 : 60);
                break;
            case "brandy":
                s.farmer = knownName(now, -1);
                s.number = number(0, 16);
                break;
            case "learn":
                s.number = number(0, 59);
                break;
            case "loop":
                s.number = number(1, 99);
                break;
            case "when":
                parseTest(s);
                break;
            default:
                break;
        }
    }

    private void parseTest(Step s) {
        s.test = token;
        switch (token) {
            case "says":
                next();
                s.number = number(0, 62);
                break;
            case "trust":
                next();
                s.farmer = knownName(now, -1);
                s.sign = sign();
                s.number = number(0, 64);
                break;
            case "days":
                next();
                s.sign = sign();
                s.number = number(0, 60);
                break;
            default:
                faultHere(2);
        }
    }

    private char sign() {
        if (!token.equals("<") && !token.equals(">") && !token.equals("=")) {
            faultHere(2);
        }
        char c = token.charAt(0);
        next();
        return c;
    }

    // ---- what is felt

    private Farmer who(int f) {
        return now.farmers.get(f);
    }

    private boolean wet(int d) {
        return now.weather.charAt(d) != 'd';
    }

    private boolean comes(int f, int d) {
        return who(f).elbow ? now.weather.charAt(d) == 'h' : wet(d);
    }

    private boolean curedBy(int f, int d) {
        return who(f).cured != null && who(f).cured <= d;
    }

    private boolean should(int f, int d) {
        int due = d + who(f).lag;
        return in(due, 0, days() - 1) && comes(f, due) && !curedBy(f, d);
    }

    /** 1, 0, or -1 where it TELLS nothing. */
    private int tells(int f, int d) {
        int felt = d - who(f).lag;
        if (!in(felt, 0, days() - 1) || curedBy(f, felt)) {
            return -1;
        }
        return who(f).felt.get(felt) ? 1 : 0;
    }

    private int drawn;

    private int draw(int n) {
        drawn = (drawn * 2857 + 11059) % 65536;
        return drawn / 8 % n;
    }

    private void feelByDraws() {
        for (int f = 0; f < now.farmers.size(); f++) {
            for (int d = 0; d < days(); d++) {
                int x = draw(16);
                who(f).felt.set(d, should(f, d) ? !(x < who(f).fails) : x < who(f).falses);
            }
        }
    }

    private void newDay(char c) {
        now.weather.append(c);
        for (Farmer f : now.farmers) {
            f.felt.add(false);
        }
    }

    private long felt(String name, int[] i) {
        switch (name) {
            case "told":
                need(in(i[0], 0, 4), 1);
                if (i[0] == 0) {
                    return now.farmers.size();
                }
                if (i[0] == 4) {
                    return now.vote;
                }
                return now.weather.chars().filter(c -> i[0] == 1 || i[0] == 2 && c != 'd' || c == 'h').count();
            case "farmer":
                return farmer(i[0], i[1]);
            case "dislikes":
                needFarmer(i[0]);
                needFarmer(i[1]);
                return now.dislikes[i[0]][i[1]];
            case "weather":
                needDay(i[0]);
                return "drh".indexOf(now.weather.charAt(i[0]));
            case "feel":
                need(in(i[0], 0, 9999), 1);
                drawn = i[0];
                feelByDraws();
                long all = 0;
                for (int f = 0; f < now.farmers.size(); f++) {
                    all += farmer(f, 6);
                }
                return all;
            case "day":
                need(in(i[0], 0, 2), 1);
                need(days() < 60, 4);
                newDay("drh".charAt(i[0]));
                return days();
            default:
                break;
        }
        needFarmer(i[0]);
        Farmer f = who(i[0]);
        switch (name) {
            case "cure":
                need(in(i[1], 0, 60), 1);
                f.cured = i[1];
                return 1;
            case "brandy":
                need(in(i[1], 0, 16), 1);
                f.falses = i[1];
                return 1;
            case "tells":
                need(in(i[1], 0, 62), 1);
                need(tells(i[0], i[1]) >= 0, 6);
                return tells(i[0], i[1]);
            case "wrongs":
                need(in(i[1], 0, 1), 1);
                int wrongs = 0;
                for (int d = 0; d < days(); d++) {
                    wrongs += f.felt.get(d) == (i[1] == 0) && should(i[0], d) == (i[1] == 1) ? 1 : 0;
                }
                return wrongs;
            default:
                break;
        }
        needDay(i[1]);
        switch (name) {
            case "should":
                return should(i[0], i[1]) ? 1 : 0;
            case "twinge":
                f.felt.set(i[1], i[2] != 0);
                return 1;
            case "lie":
                f.felt.set(i[1], !f.felt.get(i[1]));
                return f.felt.get(i[1]) ? 1 : 0;
            default:
                return f.felt.get(i[1]) ? 1 : 0;
        }
    }

    private long farmer(int i, int what) {
        needFarmer(i);
        need(in(what, 0, 6), 1);
        Farmer f = who(i);
        need(what != 4 || f.cured != null, 6);
        switch (what) {
            case 0:
                return f.lag;
            case 1:
                return f.fails;
            case 2:
                return f.falses;
            case 3:
                return f.elbow ? 1 : 0;
            case 4:
                return f.cured;
            case 5:
                return f.weight;
            default:
                return f.felt.stream().filter(x -> x).count();
        }
    }

    // ---- the bench

    /** What each one TELLS of a day. */
    private int[] words(int day) {
        int[] words = new int[now.farmers.size()];
        for (int f = 0; f < words.length; f++) {
            words[f] = tells(f, day);
        }
        return words;
    }

    private int says(int law, int[] words) {
        int rain = 0;
        int dry = 0;
        int rainWeight = 0;
        int dryWeight = 0;
        for (int f = 0; f < words.length; f++) {
            if (words[f] == 1) {
                rain++;
                rainWeight += who(f).weight;
            } else if (words[f] == 0) {
                dry++;
                dryWeight += who(f).weight;
            }
        }
        if (rain + dry == 0) {
            return -1;
        }
        boolean is = law == 0 ? rain > dry : law == 1 ? rainWeight > dryWeight : law == 2 ? rain > 0 : dry == 0;
        return is ? 1 : 0;
    }

    private int kept(int law, int without) {
        int kept = 0;
        for (int d = 0; d < days(); d++) {
            int[] words = words(d);
            if (without >= 0) {
                words[without] = -1;
            }
            kept += says(law, words) == (wet(d) ? 1 : 0) ? 1 : 0;
        }
        return kept;
    }

    private static int[] turned(int[] words, int set) {
        int[] turned = words.clone();
        for (int f = 0; f < words.length; f++) {
            if ((set >> f & 1) == 1) {
                turned[f] = 1 - words[f];
            }
        }
        return turned;
    }

    private boolean isRight(int f, int d) {
        return tells(f, d) == (comes(f, d) ? 1 : 0);
    }

    private int right(int f) {
        int right = 0;
        for (int d = 0; d < days(); d++) {
            right += isRight(f, d) ? 1 : 0;
        }
        return right;
    }

    private int toldBy(int f) {
        int told = 0;
        for (int d = 0; d < days(); d++) {
            told += tells(f, d) >= 0 ? 1 : 0;
        }
        return told;
    }

    private int learn(int d) {
        int halved = 0;
        for (int f = 0; f < now.farmers.size(); f++) {
            if (tells(f, d) >= 0 && !isRight(f, d)) {
                who(f).weight = who(f).weight / 2 < 1 ? 1 : who(f).weight / 2;
                halved++;
            }
        }
        return halved;
    }

    private int sure(int d) {
        int sure = 0;
        int[] words = words(d);
        for (int f = 0; f < words.length; f++) {
            sure += words[f] == 1 ? who(f).weight : words[f] == 0 ? -who(f).weight : 0;
        }
        return sure;
    }

    private void fraction(long a, long b) {
        java.math.BigInteger x = java.math.BigInteger.valueOf(a);
        java.math.BigInteger y = java.math.BigInteger.valueOf(b);
        java.math.BigInteger g = x.gcd(y);
        top = x.divide(g).longValueExact();
        bottom = y.divide(g).longValueExact();
    }

    /** How many rainy and dry ones there are of all that could be. */
    private long[] shares(int d, int p) {
        long rain = p;
        long dry = 16 - p;
        for (int f = 0; f < now.farmers.size(); f++) {
            int word = tells(f, d);
            if (!who(f).elbow && word >= 0) {
                rain *= word == 1 ? 16 - who(f).fails : who(f).fails;
                dry *= word == 1 ? who(f).falses : 16 - who(f).falses;
            }
        }
        need(rain + dry > 0, 7);
        return new long[] {rain, dry};
    }

    private long voted(String name, int[] i) {
        switch (name) {
            case "says":
                need(in(i[0], 0, 62), 1);
                need(says(now.vote, words(i[0])) >= 0, 6);
                return says(now.vote, words(i[0]));
            case "tips":
                need(in(i[0], 0, 62), 1);
                int[] words = words(i[0]);
                need(says(now.vote, words) >= 0, 6);
                int set = 0;
                for (int f = 0; f < words.length; f++) {
                    if (words[f] >= 0 && says(now.vote, turned(words, 1 << f)) != says(now.vote, words)) {
                        set |= 1 << f;
                    }
                }
                return set;
            case "right":
                needFarmer(i[0]);
                return right(i[0]);
            case "trust":
                needFarmer(i[0]);
                need(toldBy(i[0]) > 0, 6);
                fraction(right(i[0]), toldBy(i[0]));
                return 1;
            case "kept":
                return kept(now.vote, -1);
            case "learn":
                needDay(i[0]);
                return learn(i[0]);
            case "weigh":
                needFarmer(i[0]);
                need(in(i[1], 1, 64), 1);
                who(i[0]).weight = i[1];
                return 1;
            case "truest":
                int best = -1;
                for (int f = now.farmers.size() - 1; f >= 0; f--) {
                    if (toldBy(f) > 0 && (best < 0 || right(f) * toldBy(best) >= right(best) * toldBy(f))) {
                        best = f;
                    }
                }
                need(best >= 0, 6);
                return best;
            case "odds":
                need(in(i[0], 0, 62) && in(i[1], 1, 15), 1);
                long[] s = shares(i[0], i[1]);
                fraction(s[0], s[0] + s[1]);
                return 1;
            case "hay":
                need(in(i[0], 0, 62) && in(i[1], 1, 3) && in(i[0] + i[1] - 1, 0, 62) && in(i[2], 1, 15), 1);
                long a = 1;
                long b = 1;
                for (int d = i[0]; d < i[0] + i[1]; d++) {
                    long[] x = shares(d, i[2]);
                    a *= x[1] * 1000000 / (x[0] + x[1]);
                    b *= 1000000;
                }
                fraction(a, b);
                return 1;
            default:
                need(in(i[0], 0, 62) && in(i[1], i[0], 62), 1);
                int day = i[1];
                for (int d = i[1]; d >= i[0]; d--) {
                    if (-sure(d) >= -sure(day)) {
                        day = d;
                    }
                }
                return day;
        }
    }

    // ---- who is needed

    private int bestSum;

    private void rows(int[] row, int taken, int n, int sum) {
        if (taken == n) {
            if (sum < bestSum) {
                bestSum = sum;
                seats = Arrays.copyOf(row, n);
            }
            return;
        }
        for (int f = 0; f < n; f++) {
            boolean sits = false;
            for (int k = 0; k < taken; k++) {
                sits |= row[k] == f;
            }
            if (!sits) {
                row[taken] = f;
                rows(row, taken + 1, n, sum + (taken == 0 ? 0 : now.dislikes[row[taken - 1]][f]));
            }
        }
    }

    private long fewest(int f) {
        int best = -1;
        for (int set = 0; set < 1 << now.farmers.size(); set++) {
            int dryDays = 0;
            boolean does = true;
            for (int d = 0; d < days(); d++) {
                boolean told = false;
                for (int k = 0; k < now.farmers.size(); k++) {
                    told |= (set >> k & 1) == 1 && tells(k, d) == 1;
                }
                does &= !wet(d) || told;
                dryDays += !wet(d) && told ? 1 : 0;
            }
            if (does && dryDays <= f && (best < 0 || Integer.bitCount(set) < Integer.bitCount(best))) {
                best = set;
            }
        }
        need(best >= 0, 6);
        return best;
    }

    private int fits(int f, int lag) {
        int fits = 0;
        for (int d = 0; d < days(); d++) {
            if (in(d + lag, 0, days() - 1) && comes(f, d + lag) == who(f).felt.get(d)) {
                fits++;
            }
        }
        return fits;
    }

    private static int longest(boolean[] row) {
        int best = 0;
        int length = 0;
        for (boolean x : row) {
            length = x ? length + 1 : 0;
            best = Math.max(best, length);
        }
        return best;
    }

    private int alike(int a, int b) {
        int alike = 0;
        for (int d = 0; d < days(); d++) {
            alike += who(a).felt.get(d) && who(b).felt.get(d) ? 1 : 0;
        }
        return alike;
    }

    private long stairs(int f, int tray, int many) {
        need(in(f, 0, now.farmers.size() - 1) && in(tray, 0, 3) && in(many, 1, 999), 1);
        need(trays[tray] != null, 2);
        need(trays[tray].length >= days(), 3);
        int found = 0;
        for (int d = 0; d < days(); d++) {
            need(trays[tray][d] >= 0 && trays[tray][d] <= 999, 5);
            found += who(f).felt.get(d) && !should(f, d) && trays[tray][d] >= many ? 1 : 0;
        }
        return found;
    }

    private long needed(String name, int[] i) {
        int n = now.farmers.size();
        boolean[] row = new boolean[days()];
        int many = 0;
        switch (name) {
            case "seats":
                need(n > 0, 6);
                bestSum = Integer.MAX_VALUE;
                rows(new int[n], 0, n, 0);
                return bestSum;
            case "seatAt":
                need(in(i[0], 0, seats.length - 1), 6);
                return seats[i[0]];
            case "fewest":
                need(in(i[0], 0, 60), 1);
                return fewest(i[0]);
            case "stairs":
                return stairs(i[0], i[1], i[2]);
            case "spell":
                need(in(i[0], 0, 1), 1);
                for (int d = 0; d < days(); d++) {
                    row[d] = wet(d) == (i[0] == 1);
                }
                return longest(row);
            case "silent":
                for (int d = 0; d < days(); d++) {
                    many += says(0, words(d)) < 0 ? 1 : 0;
                }
                return many;
            case "bestLaw":
                int law = 3;
                for (int k = 3; k >= 0; k--) {
                    law = kept(k, -1) >= kept(law, -1) ? k : law;
                }
                return law;
            case "keptBy":
                need(in(i[0], 0, 3), 1);
                return kept(i[0], -1);
            case "fever":
                need(days() > 0, 6);
                int[] on = new int[days()];
                int most = 0;
                for (int d = 0; d < days(); d++) {
                    for (int f = 0; f < n; f++) {
                        on[d] += who(f).felt.get(d) ? 1 : 0;
                    }
                    most = on[d] > on[most] ? d : most;
                }
                return most;
            case "lies":
                return lies(i[0]);
            case "nextWrong":
                need(in(i[0], 0, 59), 1);
                for (int d = i[0]; d < days(); d++) {
                    int said = says(now.vote, words(d));
                    if (said >= 0 && (said == 1) != wet(d)) {
                        return d;
                    }
                }
                throw new Refused(6);
            case "warned":
                need(in(i[0], 0, 1), 1);
                for (int d = 0; d < days(); d++) {
                    many += wet(d) && (says(2, words(d)) == 1) == (i[0] == 0) ? 1 : 0;
                }
                return many;
            case "believers":
            case "flips":
            case "sure":
                need(in(i[0], 0, 62), 1);
                return ofDay(name, i[0]);
            case "span":
                need(in(i[0], 0, 62) && in(i[1], i[0], 62), 1);
                for (int d = i[0]; d <= i[1]; d++) {
                    many += says(now.vote, words(d)) == 1 ? 1 : 0;
                }
                return many;
            default:
                return ofFarmer(name, i);
        }
    }

    private long lies(int what) {
        need(in(what, 0, 1), 1);
        int found = 0;
        int was = kept(now.vote, -1);
        for (Farmer f : now.farmers) {
            for (int d = 0; d < days(); d++) {
                f.felt.set(d, !f.felt.get(d));
                int is = kept(now.vote, -1);
                found += what == 0 && is < was || what == 1 && is > was ? 1 : 0;
                f.felt.set(d, !f.felt.get(d));
            }
        }
        return found;
    }

    private long ofDay(String name, int d) {
        int[] words = words(d);
        if (name.equals("believers")) {
            int set = 0;
            for (int f = 0; f < words.length; f++) {
                set += words[f] == 1 ? 1 << f : 0;
            }
            return set;
        }
        int said = says(now.vote, words);
        need(said >= 0, 6);
        if (name.equals("sure")) {
            return sure(d);
        }
        int fewest = 99;
        for (int set = 0; set < 1 << words.length; set++) {
            boolean tell = true;
            for (int f = 0; f < words.length; f++) {
                tell &= (set >> f & 1) == 0 || words[f] >= 0;
            }
            if (tell && says(now.vote, turned(words, set)) != said) {
                fewest = Math.min(fewest, Integer.bitCount(set));
            }
        }
        return fewest;
    }

    private long ofFarmer(String name, int[] i) {
        int f = i[0];
        needFarmer(f);
        int n = now.farmers.size();
        boolean[] row = new boolean[days()];
        int best = -1;
        int many = 0;
        switch (name) {
            case "lag":
                int[] order = {0, -1, 1, -2, 2, -3, 3};
                int lag = 0;
                for (int x : order) {
                    lag = fits(f, x) > fits(f, lag) ? x : lag;
                }
                return lag;
            case "fits":
                need(in(i[1], -3, 3), 1);
                return fits(f, i[1]);
            case "toldBy":
                return toldBy(f);
            case "rival":
                for (int g = n - 1; g >= 0; g--) {
                    if (g != f && (best < 0 || alike(f, g) >= alike(f, best))) {
                        best = g;
                    }
                }
                need(best >= 0, 6);
                return best;
            case "quiet":
                for (int d = 0; d < days(); d++) {
                    row[d] = !who(f).felt.get(d);
                }
                return longest(row);
            case "useful":
                return kept(now.vote, -1) - kept(now.vote, f);
            case "mood":
                for (int g = 0; g < n; g++) {
                    many += now.dislikes[f][g];
                }
                return many;
            case "foe":
                for (int g = n - 1; g >= 0; g--) {
                    if (now.dislikes[f][g] > 0 && (best < 0 || now.dislikes[f][g] >= now.dislikes[f][best])) {
                        best = g;
                    }
                }
                need(best >= 0, 6);
                return best;
            case "streak":
                for (int d = 0; d < days(); d++) {
                    row[d] = isRight(f, d);
                }
                return longest(row);
            case "agrees":
                for (int d = 0; d < days(); d++) {
                    many += tells(f, d) >= 0 && tells(f, d) == says(now.vote, words(d)) ? 1 : 0;
                }
                return many;
            case "alike":
                need(in(i[1], 0, n - 1) && f != i[1], 1);
                return alike(f, i[1]);
            case "clashes":
                need(in(i[1], 0, n - 1) && f != i[1], 1);
                for (int d = 0; d < days(); d++) {
                    many += tells(f, d) >= 0 && tells(i[1], d) >= 0 && tells(f, d) != tells(i[1], d) ? 1 : 0;
                }
                return many;
            default:
                throw new IllegalStateException(name);
        }
    }

    // ---- seasons and marks

    private int steps;
    private int missed;
    private int newDays;
    private int wetDays;
    private boolean left;
    private boolean stopped;

    private void liveBy(int seed) {
        drawn = seed;
        steps = 0;
        missed = 0;
        newDays = 0;
        wetDays = 0;
        left = false;
        stopped = false;
        go(now.season);
    }

    private void go(List<Step> list) {
        for (Step s : list) {
            if (stopped) {
                return;
            }
            if (steps == 200) {
                left = true;
                stopped = true;
                return;
            }
            steps++;
            if (s.word.equals("when")) {
                if (holds(s)) {
                    go(s.inner);
                }
            } else if (s.word.equals("loop")) {
                for (int k = 0; k < s.number && !stopped; k++) {
                    go(s.inner);
                }
            } else if (s.word.equals("stop")) {
                stopped = true;
            } else {
                doStep(s);
            }
        }
    }

    private boolean holds(Step s) {
        if (s.test.equals("says")) {
            return says(now.vote, words(s.number)) == 1;
        }
        int x = s.test.equals("trust") ? who(s.farmer).weight : days();
        return s.sign == '<' ? x < s.number : s.sign == '>' ? x > s.number : x == s.number;
    }

    private void doStep(Step s) {
        switch (s.word) {
            case "rain":
                comeDay(draw(16) < s.number ? 'r' : 'd');
                break;
            case "hail":
                comeDay('h');
                break;
            case "dry":
                comeDay('d');
                break;
            case "feel":
                feelByDraws();
                break;
            case "lie":
                if (s.number < days()) {
                    who(s.farmer).felt.set(s.number, !who(s.farmer).felt.get(s.number));
                } else {
                    missed++;
                }
                break;
            case "cure":
                who(s.farmer).cured = s.number;
                break;
            case "brandy":
                who(s.farmer).falses = s.number;
                break;
            default:
                if (s.number < days()) {
                    learn(s.number);
                } else {
                    missed++;
                }
                break;
        }
    }

    private void comeDay(char c) {
        if (days() == 60) {
            missed++;
            return;
        }
        newDay(c);
        newDays++;
        wetDays += c == 'd' ? 0 : 1;
    }

    private long lives(String name, int[] i) {
        switch (name) {
            case "live":
                need(in(i[0], 0, 9999), 1);
                need(now.season != null, 6);
                liveBy(i[0]);
                lived = new int[] {missed, newDays, wetDays, left ? 1 : 0};
                return steps;
            case "lived":
                need(in(i[0], 0, 3), 1);
                need(lived != null, 6);
                return lived[i[0]];
            case "mean":
                need(in(i[0], 0, 9999) && in(i[1], 1, 20) && i[0] + i[1] - 1 <= 9999, 1);
                need(now.season != null, 6);
                State was = now;
                long sum = 0;
                for (int seed = i[0]; seed < i[0] + i[1]; seed++) {
                    now = was.copy();
                    liveBy(seed);
                    sum += kept(now.vote, -1);
                }
                now = was;
                fraction(sum, i[1]);
                return 1;
            case "mark":
                need(marks.size() < 3, 4);
                marks.add(now.copy());
                return marks.size();
            default:
                need(!marks.isEmpty(), 6);
                now = marks.remove(marks.size() - 1);
                return marks.size();
        }
    }
}
