/**
 * A bench of farmers who feel rain in one knee each. The promises are numbered in the project's
 * document; words in capitals there have plain names here.
 *
 * <p>Days are held as bits of a long (at most 63 can be told of), sets of farmers as bits of an int:
 * so a row of days is one number, and nothing is made anew by a call.
 */
public final class KneeBench {
    public static final int NONE = -1;

    private static final int MAX_FARMERS = 8;
    private static final int MAX_DAYS = 60;
    /** A knee that is three days ahead tells of three days that are not there yet. */
    private static final int LAST_TOLD_DAY = 62;
    private static final int MAX_LAG = 3;
    private static final int SIXTEENTHS = 16;
    private static final int FULL_WEIGHT = 64;
    /** Behind every day on which a farmer can be cured. */
    private static final int NEVER = 61;
    private static final int MAX_DISLIKE = 99;
    private static final int MAX_SEED = 9999;
    private static final int MAX_MARKS = 3;
    private static final int MAX_MEAN = 20;
    private static final int MAX_STAIRS = 999;
    private static final int MAX_HAY = 3;
    private static final long MILLION = 1000000L;
    private static final int LONG_BITS = 64;

    private static final int DRY = 0;
    private static final int RAIN = 1;
    private static final int HAIL = 2;

    private static final int LAW_MOST = 0;
    private static final int LAW_WEIGHTS = 1;
    private static final int LAW_ANY = 2;
    private static final int LAWS = 4;

    private static final int TRAYS = 4;
    private static final int PLACES = 60;
    private static final int SORTS = 4;
    private static final int TAPE = 900;
    private static final int BYTES_FED = 20;
    private static final int SEASON_TEXT = 300;
    private static final int MAX_STEPS = 30;
    /** Each step may have an end of its own. */
    private static final int INSTRUCTIONS = 60;
    private static final int MAX_DEPTH = 3;
    private static final int MAX_ROUNDS = 99;
    private static final int STEPS_LIVED = 200;
    /** Far above 200 steps with 99 empty rounds each, which no life can go beyond. */
    private static final int MAX_TURNS = 1000000;

    private static final int STATUS_FINE = 0;
    private static final int STATUS_NO_SUCH = 1;
    private static final int STATUS_MISSING = 2;
    private static final int STATUS_NO_PLACE = 3;
    private static final int STATUS_TOO_MANY = 4;
    private static final int STATUS_BAD_NUMBER = 5;
    private static final int STATUS_NONE_SUCH = 6;
    private static final int STATUS_CANNOT_BE = 7;
    private static final int STATUS_UNLIKE = 8;
    private static final int STATUS_FAULT = 9;

    private static final int FAULT_TOKEN = 1;
    private static final int FAULT_MISPLACED = 2;
    private static final int FAULT_NAME = 3;
    private static final int FAULT_NUMBER = 4;
    private static final int FAULT_TWICE = 5;
    private static final int FAULT_TOO_MANY = 6;
    private static final int FAULT_TOO_DEEP = 7;

    /** Every word that is no name; the numbers below are their places in it. */
    private static final String WORDS = "farmer ahead behind fails false elbow cured dislikes weather vote most weights any all rain dry hail feel lie on cure brandy learn when says trust days loop end stop ";
    private static final int WORD_COUNT = 30;
    private static final int W_FARMER = 0;
    private static final int W_AHEAD = 1;
    private static final int W_BEHIND = 2;
    private static final int W_FAILS = 3;
    private static final int W_FALSE = 4;
    private static final int W_ELBOW = 5;
    private static final int W_CURED = 6;
    private static final int W_DISLIKES = 7;
    private static final int W_WEATHER = 8;
    private static final int W_VOTE = 9;
    private static final int W_MOST = 10;
    private static final int W_ALL = 13;
    private static final int W_RAIN = 14;
    private static final int W_DRY = 15;
    private static final int W_HAIL = 16;
    private static final int W_FEEL = 17;
    private static final int W_LIE = 18;
    private static final int W_ON = 19;
    private static final int W_CURE = 20;
    private static final int W_BRANDY = 21;
    private static final int W_LEARN = 22;
    private static final int W_WHEN = 23;
    private static final int W_SAYS = 24;
    private static final int W_TRUST = 25;
    private static final int W_DAYS = 26;
    private static final int W_LOOP = 27;
    private static final int W_END = 28;
    private static final int W_STOP = 29;
    private static final int NAME_LETTERS = 8;
    private static final int NUMBER_DIGITS = 4;

    private final Bench bench = new Bench();
    private final Season season = new Season();
    /** What a text is read into, and what mean() lives on, so that the true ones stay as they are. */
    private final Bench spareBench = new Bench();
    private final Season spareSeason = new Season();
    private final Mark firstMark = new Mark();
    private final Mark secondMark = new Mark();
    private final Mark thirdMark = new Mark();
    private final Trays trays = new Trays();
    private final Tokens tokens = new Tokens();
    private final BenchText benchText = new BenchText(tokens, spareBench);
    private final SeasonText seasonText = new SeasonText(tokens, spareSeason, bench);
    private final Life life = new Life();
    private final Life trial = new Life();
    private final Draws draws = new Draws();
    private final Seats seating = new Seats();
    private int marks = 0;
    private int latestStatus = STATUS_FINE;
    private long fractionTop = 0L;
    private long fractionBottom = 1L;

    public KneeBench() {
    }

    public int status() {
        return latestStatus;
    }

    public long top() {
        return fractionTop;
    }

    public long bottom() {
        return fractionBottom;
    }

    // ---- TRAYS

    public boolean tray(int tray, int sort, int many) {
        if (noTray(tray) || outside(sort, 0, SORTS - 1) || outside(many, 0, PLACES)) {
            return deny(STATUS_NO_SUCH);
        }
        trays.lay(tray, sort, many);
        return allow();
    }

    public boolean write(int tray, int place, long v) {
        int problem = placeProblem(tray, place);
        if (problem != STATUS_FINE) {
            return deny(problem);
        }
        trays.put(tray, place, v);
        return allow();
    }

    public long read(int tray, int place) {
        int problem = placeProblem(tray, place);
        if (problem != STATUS_FINE) {
            return refuse(problem);
        }
        latestStatus = STATUS_FINE;
        return trays.at(tray, place);
    }

    public boolean pour(int from, int place, int to, int at, int many) {
        if (noTray(from) || noTray(to) || place < 0 || at < 0 || many < 0) {
            return deny(STATUS_NO_SUCH);
        }
        if (trays.isMissing(from) || trays.isMissing(to)) {
            return deny(STATUS_MISSING);
        }
        if (trays.sorts[from] != trays.sorts[to]) {
            return deny(STATUS_UNLIKE);
        }
        if (!trays.hasPlaces(from, place, many) || !trays.hasPlaces(to, at, many)) {
            return deny(STATUS_NO_PLACE);
        }
        trays.move(from, place, to, at, many);
        return allow();
    }

    // ---- texts

    public int feed(int a, int b, int c, int d, int e) {
        if (tokens.filled + BYTES_FED > TAPE) {
            return NONE;
        }
        tokens.append(a);
        tokens.append(b);
        tokens.append(c);
        tokens.append(d);
        tokens.append(e);
        return tokens.filled;
    }

    public int bench(int n) {
        if (outside(n, 0, tokens.filled)) {
            return refuse(STATUS_NO_SUCH);
        }
        boolean isTaken = benchText.isRead(n);
        tokens.filled = 0;
        if (!isTaken) {
            return refuse(STATUS_FAULT);
        }
        bench.copyFrom(spareBench);
        season.empty();
        return answer(bench.farmers);
    }

    public int season(int n) {
        if (outside(n, 0, tokens.filled) || n > SEASON_TEXT) {
            return refuse(STATUS_NO_SUCH);
        }
        boolean isTaken = seasonText.isRead(n);
        tokens.filled = 0;
        if (!isTaken) {
            return refuse(STATUS_FAULT);
        }
        season.copyFrom(spareSeason);
        return answer(season.steps);
    }

    public int fault(int what) {
        switch (what) {
            case 0:
                return tokens.fault;
            case 1:
                return tokens.faultPlace;
            default:
                return NONE;
        }
    }

    public int told(int what) {
        switch (what) {
            case 0:
                return answer(bench.farmers);
            case 1:
                return answer(bench.days);
            case 2:
                return answer(Long.bitCount(bench.wet));
            case 3:
                return answer(Long.bitCount(bench.hail));
            case 4:
                return answer(bench.vote);
            default:
                return refuse(STATUS_NO_SUCH);
        }
    }

    public int farmer(int farmer, int what) {
        if (noFarmer(farmer)) {
            return refuse(STATUS_NO_SUCH);
        }
        switch (what) {
            case 0:
                return answer(bench.lags[farmer]);
            case 1:
                return answer(bench.fails[farmer]);
            case 2:
                return answer(bench.falses[farmer]);
            case 3:
                return answer(bit(bench.hasElbow(farmer)));
            case 4:
                return bench.cures[farmer] == NEVER ? refuse(STATUS_NONE_SUCH) : answer(bench.cures[farmer]);
            case 5:
                return answer(bench.weights[farmer]);
            case 6:
                return answer(Long.bitCount(bench.twinges[farmer]));
            default:
                return refuse(STATUS_NO_SUCH);
        }
    }

    public int dislikes(int a, int b) {
        if (noFarmer(a) || noFarmer(b)) {
            return refuse(STATUS_NO_SUCH);
        }
        return answer(bench.dislike(a, b));
    }

    public int weather(int day) {
        if (noDay(day)) {
            return refuse(STATUS_NO_SUCH);
        }
        return answer(bench.wetOn(day) + (int) (bench.hail >>> day & 1L));
    }

    // ---- what is felt

    public int should(int farmer, int day) {
        if (noFarmer(farmer) || noDay(day)) {
            return refuse(STATUS_NO_SUCH);
        }
        return answer((int) (bench.dueDays(farmer) >>> day & 1L));
    }

    public int twinges(int farmer, int day) {
        if (noFarmer(farmer) || noDay(day)) {
            return refuse(STATUS_NO_SUCH);
        }
        return answer(bench.feltOn(farmer, day));
    }

    public boolean twinge(int farmer, int day, boolean is) {
        if (noFarmer(farmer) || noDay(day)) {
            return deny(STATUS_NO_SUCH);
        }
        if (bench.feltOn(farmer, day) != bit(is)) {
            bench.turn(farmer, day);
        }
        return allow();
    }

    public int feel(int seed) {
        if (outside(seed, 0, MAX_SEED)) {
            return refuse(STATUS_NO_SUCH);
        }
        draws.begin(seed);
        bench.feelBy(draws);
        return answer(bench.allTwinges());
    }

    public int lie(int farmer, int day) {
        if (noFarmer(farmer) || noDay(day)) {
            return refuse(STATUS_NO_SUCH);
        }
        bench.turn(farmer, day);
        return answer(bench.feltOn(farmer, day));
    }

    public boolean cure(int farmer, int day) {
        if (noFarmer(farmer) || outside(day, 0, MAX_DAYS)) {
            return deny(STATUS_NO_SUCH);
        }
        bench.cureOn(farmer, day);
        return allow();
    }

    public boolean brandy(int farmer, int n) {
        if (noFarmer(farmer) || outside(n, 0, SIXTEENTHS)) {
            return deny(STATUS_NO_SUCH);
        }
        bench.setFalse(farmer, n);
        return allow();
    }

    public int day(int weather) {
        if (outside(weather, DRY, HAIL)) {
            return refuse(STATUS_NO_SUCH);
        }
        if (!bench.canAddDay()) {
            return refuse(STATUS_TOO_MANY);
        }
        bench.addDay(weather);
        return answer(bench.days);
    }

    public int tells(int farmer, int day) {
        if (noFarmer(farmer) || noToldDay(day)) {
            return refuse(STATUS_NO_SUCH);
        }
        if (!bench.hasWord(farmer, day)) {
            return refuse(STATUS_NONE_SUCH);
        }
        return answer(bit(bench.believes(farmer, day)));
    }

    public int wrongs(int farmer, int what) {
        if (noFarmer(farmer) || outside(what, 0, 1)) {
            return refuse(STATUS_NO_SUCH);
        }
        long due = bench.dueDays(farmer);
        long felt = bench.twinges[farmer];
        return answer(Long.bitCount(what == 0 ? felt & ~due : due & ~felt));
    }

    // ---- the BENCH

    public int says(int day) {
        if (noToldDay(day)) {
            return refuse(STATUS_NO_SUCH);
        }
        return answerIfAny(bench.verdictOf(day));
    }

    public int tips(int day) {
        if (noToldDay(day)) {
            return refuse(STATUS_NO_SUCH);
        }
        if (bench.tellersOf(day) == 0) {
            return refuse(STATUS_NONE_SUCH);
        }
        return answer(bench.tippersOf(day));
    }

    public int right(int farmer) {
        if (noFarmer(farmer)) {
            return refuse(STATUS_NO_SUCH);
        }
        return answer(Long.bitCount(bench.rightDays(farmer)));
    }

    public boolean trust(int farmer) {
        if (noFarmer(farmer)) {
            return deny(STATUS_NO_SUCH);
        }
        int told = Long.bitCount(bench.toldDays(farmer));
        if (told == 0) {
            return deny(STATUS_NONE_SUCH);
        }
        tellFraction(Long.bitCount(bench.rightDays(farmer)), told);
        return allow();
    }

    public int kept() {
        return answer(bench.keptUnder(bench.vote, 0));
    }

    public int learn(int day) {
        if (noDay(day)) {
            return refuse(STATUS_NO_SUCH);
        }
        return answer(bench.learnOf(day));
    }

    public boolean weigh(int farmer, int weight) {
        if (noFarmer(farmer) || outside(weight, 1, FULL_WEIGHT)) {
            return deny(STATUS_NO_SUCH);
        }
        bench.weights[farmer] = weight;
        return allow();
    }

    public int truest() {
        return answerIfAny(bench.mostTrusted());
    }

    // ---- what will be

    public boolean odds(int day, int p) {
        if (noToldDay(day) || outside(p, 1, SIXTEENTHS - 1)) {
            return deny(STATUS_NO_SUCH);
        }
        long rain = bench.rainShare(day, p);
        long all = rain + bench.dryShare(day, p);
        if (all == 0L) {
            return deny(STATUS_CANNOT_BE);
        }
        tellFraction(rain, all);
        return allow();
    }

    public boolean hay(int day, int k, int p) {
        if (noToldDay(day) || outside(k, 1, MAX_HAY) || day + k - 1 > LAST_TOLD_DAY
                || outside(p, 1, SIXTEENTHS - 1)) {
            return deny(STATUS_NO_SUCH);
        }
        long dry = 1L;
        long all = 1L;
        for (int i = 0; i < k; i++) {
            long millionths = dryMillionths(day + i, p);
            if (millionths == NONE) {
                return deny(STATUS_CANNOT_BE);
            }
            dry *= millionths;
            all *= MILLION;
        }
        tellFraction(dry, all);
        return allow();
    }

    public int wedding(int from, int to) {
        if (noSpan(from, to)) {
            return refuse(STATUS_NO_SUCH);
        }
        int best = from;
        for (int d = from + 1; d <= to; d++) {
            if (bench.leaning(d) < bench.leaning(best)) {
                best = d;
            }
        }
        return answer(best);
    }

    // ---- who sits, who is needed

    public int seats() {
        if (bench.farmers == 0) {
            return refuse(STATUS_NONE_SUCH);
        }
        return answer(seating.seat(bench));
    }

    public int seatAt(int k) {
        if (k < 0 || k >= seating.taken) {
            return refuse(STATUS_NONE_SUCH);
        }
        return answer(seating.row[k]);
    }

    public int fewest(int f) {
        if (outside(f, 0, MAX_DAYS)) {
            return refuse(STATUS_NO_SUCH);
        }
        return answerIfAny(bench.fewestKnees(f));
    }

    public int lag(int farmer) {
        if (noFarmer(farmer)) {
            return refuse(STATUS_NO_SUCH);
        }
        int best = 0;
        for (int far = 1; far <= MAX_LAG; far++) {
            // Nearest to 0 first, and of two the one below 0: so only a better fit takes its place.
            if (bench.fitsBy(farmer, -far) > bench.fitsBy(farmer, best)) {
                best = -far;
            }
            if (bench.fitsBy(farmer, far) > bench.fitsBy(farmer, best)) {
                best = far;
            }
        }
        return answer(best);
    }

    public int fits(int farmer, int lag) {
        if (noFarmer(farmer) || outside(lag, -MAX_LAG, MAX_LAG)) {
            return refuse(STATUS_NO_SUCH);
        }
        return answer(bench.fitsBy(farmer, lag));
    }

    public int stairs(int farmer, int tray, int many) {
        if (noFarmer(farmer) || noTray(tray) || outside(many, 1, MAX_STAIRS)) {
            return refuse(STATUS_NO_SUCH);
        }
        if (trays.isMissing(tray)) {
            return refuse(STATUS_MISSING);
        }
        if (!trays.hasPlaces(tray, 0, bench.days)) {
            return refuse(STATUS_NO_PLACE);
        }
        long climbed = 0L;
        for (int d = 0; d < bench.days; d++) {
            long stairs = trays.at(tray, d);
            if (stairs < 0 || stairs > MAX_STAIRS) {
                return refuse(STATUS_BAD_NUMBER);
            }
            if (stairs >= many) {
                climbed |= 1L << d;
            }
        }
        return answer(Long.bitCount(bench.twinges[farmer] & ~bench.dueDays(farmer) & climbed));
    }

    public int spell(int what) {
        if (outside(what, 0, 1)) {
            return refuse(STATUS_NO_SUCH);
        }
        return answer(longestRow(what == 0 ? bench.daysThere() & ~bench.wet : bench.wet));
    }

    public int believers(int day) {
        if (noToldDay(day)) {
            return refuse(STATUS_NO_SUCH);
        }
        return answer(bench.believersOf(day));
    }

    public int alike(int a, int b) {
        if (noCouple(a, b)) {
            return refuse(STATUS_NO_SUCH);
        }
        return answer(bench.twingesShared(a, b));
    }

    public int toldBy(int farmer) {
        if (noFarmer(farmer)) {
            return refuse(STATUS_NO_SUCH);
        }
        return answer(Long.bitCount(bench.toldDays(farmer)));
    }

    public int flips(int day) {
        if (noToldDay(day)) {
            return refuse(STATUS_NO_SUCH);
        }
        return answerIfAny(bench.fewestTurned(day));
    }

    public int span(int from, int to) {
        if (noSpan(from, to)) {
            return refuse(STATUS_NO_SUCH);
        }
        int rainy = 0;
        for (int d = from; d <= to; d++) {
            if (bench.verdictOf(d) == 1) {
                rainy++;
            }
        }
        return answer(rainy);
    }

    public int rival(int farmer) {
        if (noFarmer(farmer)) {
            return refuse(STATUS_NO_SUCH);
        }
        int best = NONE;
        for (int other = 0; other < bench.farmers; other++) {
            if (other != farmer && (best == NONE
                    || bench.twingesShared(farmer, other) > bench.twingesShared(farmer, best))) {
                best = other;
            }
        }
        return answerIfAny(best);
    }

    public int quiet(int farmer) {
        if (noFarmer(farmer)) {
            return refuse(STATUS_NO_SUCH);
        }
        return answer(longestRow(bench.daysThere() & ~bench.twinges[farmer]));
    }

    public int useful(int farmer) {
        if (noFarmer(farmer)) {
            return refuse(STATUS_NO_SUCH);
        }
        return answer(bench.keptUnder(bench.vote, 0) - bench.keptUnder(bench.vote, 1 << farmer));
    }

    public int mood(int farmer) {
        if (noFarmer(farmer)) {
            return refuse(STATUS_NO_SUCH);
        }
        int sum = 0;
        for (int other = 0; other < bench.farmers; other++) {
            sum += bench.dislike(farmer, other);
        }
        return answer(sum);
    }

    public int foe(int farmer) {
        if (noFarmer(farmer)) {
            return refuse(STATUS_NO_SUCH);
        }
        int worst = farmer;
        for (int other = 0; other < bench.farmers; other++) {
            if (bench.dislike(farmer, other) > bench.dislike(farmer, worst)) {
                worst = other;
            }
        }
        // Nobody dislikes itself: who is left with itself dislikes nobody.
        return worst == farmer ? refuse(STATUS_NONE_SUCH) : answer(worst);
    }

    public int silent() {
        long told = 0L;
        for (int f = 0; f < bench.farmers; f++) {
            told |= bench.toldDays(f);
        }
        return answer(bench.days - Long.bitCount(told));
    }

    public int sure(int day) {
        if (noToldDay(day)) {
            return refuse(STATUS_NO_SUCH);
        }
        if (bench.tellersOf(day) == 0) {
            return refuse(STATUS_NONE_SUCH);
        }
        return answer(bench.leaning(day));
    }

    public int bestLaw() {
        int best = LAW_MOST;
        for (int law = 1; law < LAWS; law++) {
            if (bench.keptUnder(law, 0) > bench.keptUnder(best, 0)) {
                best = law;
            }
        }
        return answer(best);
    }

    public int keptBy(int law) {
        if (outside(law, LAW_MOST, LAWS - 1)) {
            return refuse(STATUS_NO_SUCH);
        }
        return answer(bench.keptUnder(law, 0));
    }

    public int streak(int farmer) {
        if (noFarmer(farmer)) {
            return refuse(STATUS_NO_SUCH);
        }
        return answer(longestRow(bench.rightDays(farmer)));
    }

    public int clashes(int a, int b) {
        if (noCouple(a, b)) {
            return refuse(STATUS_NO_SUCH);
        }
        long both = bench.toldDays(a) & bench.toldDays(b);
        return answer(Long.bitCount(both & (bench.rainDays(a) ^ bench.rainDays(b))));
    }

    public int fever() {
        int worst = NONE;
        for (int d = 0; d < bench.days; d++) {
            if (worst == NONE || bench.twingesOn(d) > bench.twingesOn(worst)) {
                worst = d;
            }
        }
        return answerIfAny(worst);
    }

    public int lies(int what) {
        if (outside(what, 0, 1)) {
            return refuse(STATUS_NO_SUCH);
        }
        // A lie turns one word about one day: it counts just where it tips what the bench says.
        int many = 0;
        for (int d = 0; d < bench.days; d++) {
            boolean isRight = bench.verdictOf(d) == bench.wetOn(d);
            if (isRight == (what == 0)) {
                many += Integer.bitCount(bench.tippersOf(d));
            }
        }
        return answer(many);
    }

    public int nextWrong(int day) {
        if (outside(day, 0, MAX_DAYS - 1)) {
            return refuse(STATUS_NO_SUCH);
        }
        for (int d = day; d < bench.days; d++) {
            if (bench.verdictOf(d) == 1 - bench.wetOn(d)) {
                return answer(d);
            }
        }
        return refuse(STATUS_NONE_SUCH);
    }

    public int warned(int what) {
        if (outside(what, 0, 1)) {
            return refuse(STATUS_NO_SUCH);
        }
        long told = bench.rainDaysOfSet((1 << bench.farmers) - 1);
        return answer(Long.bitCount(what == 0 ? bench.wet & told : bench.wet & ~told));
    }

    public int agrees(int farmer) {
        if (noFarmer(farmer)) {
            return refuse(STATUS_NO_SUCH);
        }
        int many = 0;
        for (int d = 0; d < bench.days; d++) {
            if (bench.hasWord(farmer, d) && bit(bench.believes(farmer, d)) == bench.verdictOf(d)) {
                many++;
            }
        }
        return answer(many);
    }

    // ---- SEASONS

    public int live(int seed) {
        if (outside(seed, 0, MAX_SEED)) {
            return refuse(STATUS_NO_SUCH);
        }
        if (!season.isThere) {
            return refuse(STATUS_NONE_SUCH);
        }
        life.run(bench, season, seed);
        return answer(life.steps);
    }

    public int lived(int what) {
        if (outside(what, 0, 3)) {
            return refuse(STATUS_NO_SUCH);
        }
        if (life.steps == NONE) {
            return refuse(STATUS_NONE_SUCH);
        }
        switch (what) {
            case 0:
                return answer(life.missed);
            case 1:
                return answer(life.newDays);
            case 2:
                return answer(life.wetDays);
            default:
                return answer(bit(life.isCut));
        }
    }

    public boolean mean(int seed, int many) {
        if (outside(seed, 0, MAX_SEED) || outside(many, 1, MAX_MEAN) || seed + many - 1 > MAX_SEED) {
            return deny(STATUS_NO_SUCH);
        }
        if (!season.isThere) {
            return deny(STATUS_NONE_SUCH);
        }
        long sum = 0L;
        for (int i = 0; i < many; i++) {
            spareBench.copyFrom(bench);
            trial.run(spareBench, season, seed + i);
            sum += spareBench.keptUnder(spareBench.vote, 0);
        }
        tellFraction(sum, many);
        return allow();
    }

    // ---- MARKS

    public int mark() {
        if (marks >= MAX_MARKS) {
            return refuse(STATUS_TOO_MANY);
        }
        markAt(marks).keep(bench, season);
        marks++;
        return answer(marks);
    }

    public int back() {
        if (marks == 0) {
            return refuse(STATUS_NONE_SUCH);
        }
        marks--;
        markAt(marks).giveBack(bench, season);
        return answer(marks);
    }

    // ---- answers and what is asked of every call

    private int answer(int value) {
        latestStatus = STATUS_FINE;
        return value;
    }

    private int answerIfAny(int value) {
        return value == NONE ? refuse(STATUS_NONE_SUCH) : answer(value);
    }

    private int refuse(int status) {
        latestStatus = status;
        return NONE;
    }

    private boolean allow() {
        latestStatus = STATUS_FINE;
        return true;
    }

    private boolean deny(int status) {
        latestStatus = status;
        return false;
    }

    private boolean noFarmer(int farmer) {
        return !bench.hasFarmer(farmer);
    }

    private boolean noCouple(int a, int b) {
        return noFarmer(a) || noFarmer(b) || a == b;
    }

    private boolean noDay(int day) {
        return day < 0 || day >= bench.days;
    }

    private static boolean noToldDay(int day) {
        return outside(day, 0, LAST_TOLD_DAY);
    }

    private static boolean noSpan(int from, int to) {
        return noToldDay(from) || noToldDay(to) || to < from;
    }

    private static boolean noTray(int tray) {
        return outside(tray, 0, TRAYS - 1);
    }

    private int placeProblem(int tray, int place) {
        if (noTray(tray)) {
            return STATUS_NO_SUCH;
        }
        if (trays.isMissing(tray)) {
            return STATUS_MISSING;
        }
        return trays.hasPlaces(tray, place, 1) ? STATUS_FINE : STATUS_NO_PLACE;
    }

    /** Bottom is above 0, top not below 0. */
    private void tellFraction(long top, long bottom) {
        long divisor = commonDivisor(top, bottom);
        if (divisor > 0L) {
            fractionTop = top / divisor;
            fractionBottom = bottom / divisor;
        }
    }

    /** NONE where the day has no odds. */
    private long dryMillionths(int day, int p) {
        long dry = bench.dryShare(day, p);
        long all = dry + bench.rainShare(day, p);
        return all == 0L ? NONE : dry * MILLION / all;
    }

    private Mark markAt(int place) {
        if (place == 0) {
            return firstMark;
        }
        return place == 1 ? secondMark : thirdMark;
    }

    private static boolean outside(int value, int least, int most) {
        return value < least || value > most;
    }

    private static int bit(boolean is) {
        return is ? 1 : 0;
    }

    private static long commonDivisor(long a, long b) {
        // Euclid's steps: a long has fewer than a hundred of them.
        for (int i = 0; i < 200 && b != 0L; i++) {
            long rest = a % b;
            a = b;
            b = rest;
        }
        return a;
    }

    /** The first so many days, 0 to 60 of them. */
    private static long firstDays(int many) {
        return (1L << many) - 1L;
    }

    /** Every day of a row so many days later, or earlier below 0. */
    private static long later(long row, int many) {
        return many < 0 ? row >>> -many : row << many;
    }

    /** How many of these days stand one after another at most. */
    private static int longestRow(long row) {
        int length = 0;
        // Each round takes the last day off every row.
        while (row != 0L && length < LONG_BITS) {
            row &= row >>> 1;
            length++;
        }
        return length;
    }

    /** The stream of numbers that a seed begins. */
    private static final class Draws {
        private int s = 0;

        void begin(int seed) {
            s = seed;
        }

        int drawBy16() {
            s = (s * 2857 + 11059) % 65536;
            return s / 8 % SIXTEENTHS;
        }
    }

    /** The farmers, their weather, what they felt and how they vote. */
    private static final class Bench {
        private final long[] names = new long[MAX_FARMERS];
        private final int[] lags = new int[MAX_FARMERS];
        private final int[] fails = new int[MAX_FARMERS];
        private final int[] falses = new int[MAX_FARMERS];
        private final int[] cures = new int[MAX_FARMERS];
        private final int[] weights = new int[MAX_FARMERS];
        private final long[] twinges = new long[MAX_FARMERS];
        private final int[] grudges = new int[MAX_FARMERS * MAX_FARMERS];
        private int farmers = 0;
        private int days = 0;
        private long wet = 0L;
        private long hail = 0L;
        private int vote = LAW_MOST;
        private int elbows = 0;

        void empty() {
            farmers = 0;
            elbows = 0;
            days = 0;
            wet = 0L;
            hail = 0L;
            vote = LAW_MOST;
            for (int i = 0; i < grudges.length; i++) {
                grudges[i] = 0;
            }
        }

        void copyFrom(Bench other) {
            System.arraycopy(other.names, 0, names, 0, MAX_FARMERS);
            System.arraycopy(other.lags, 0, lags, 0, MAX_FARMERS);
            System.arraycopy(other.fails, 0, fails, 0, MAX_FARMERS);
            System.arraycopy(other.falses, 0, falses, 0, MAX_FARMERS);
            System.arraycopy(other.cures, 0, cures, 0, MAX_FARMERS);
            System.arraycopy(other.weights, 0, weights, 0, MAX_FARMERS);
            System.arraycopy(other.twinges, 0, twinges, 0, MAX_FARMERS);
            System.arraycopy(other.grudges, 0, grudges, 0, MAX_FARMERS * MAX_FARMERS);
            farmers = other.farmers;
            elbows = other.elbows;
            days = other.days;
            wet = other.wet;
            hail = other.hail;
            vote = other.vote;
        }

        /** Only once all days are told can each knee feel what it should. */
        void settle() {
            for (int f = 0; f < farmers; f++) {
                weights[f] = FULL_WEIGHT;
                twinges[f] = dueDays(f);
            }
        }

        int farmerNamed(long name) {
            for (int f = 0; f < farmers; f++) {
                if (names[f] == name) {
                    return f;
                }
            }
            return NONE;
        }

        boolean hasFarmer(int f) {
            return f >= 0 && f < farmers;
        }

        boolean hasElbow(int f) {
            return (elbows >>> f & 1) != 0;
        }

        int dislike(int a, int b) {
            return grudges[a * MAX_FARMERS + b];
        }

        void setDislike(int a, int b, int much) {
            grudges[a * MAX_FARMERS + b] = much;
            grudges[b * MAX_FARMERS + a] = much;
        }

        boolean canAddDay() {
            return days < MAX_DAYS;
        }

        void addDay(int weather) {
            if (!canAddDay()) {
                return;
            }
            if (weather != DRY) {
                wet |= 1L << days;
            }
            if (weather == HAIL) {
                hail |= 1L << days;
            }
            days++;
        }

        long daysThere() {
            return firstDays(days);
        }

        int wetOn(int day) {
            return (int) (wet >>> day & 1L);
        }

        /** The days with what this farmer's knee, or elbow, can feel. */
        private long feltWeather(int f) {
            return hasElbow(f) ? hail : wet;
        }

        /** The days on which a farmer is there to feel: none from its cure on. */
        private long feelingDays(int f) {
            return firstDays(Math.min(days, cures[f]));
        }

        long dueDays(int f) {
            return later(feltWeather(f), -lags[f]) & feelingDays(f);
        }

        int feltOn(int f, int day) {
            return (int) (twinges[f] >>> day & 1L);
        }

        void turn(int f, int day) {
            if (hasFarmer(f)) {
                twinges[f] ^= 1L << day;
            }
        }

        void cureOn(int f, int day) {
            if (hasFarmer(f)) {
                cures[f] = day;
            }
        }

        void setFalse(int f, int sixteenths) {
            if (hasFarmer(f)) {
                falses[f] = sixteenths;
            }
        }

        void feelBy(Draws draws) {
            for (int f = 0; f < farmers; f++) {
                long due = dueDays(f);
                long felt = 0L;
                for (int d = 0; d < days; d++) {
                    int draw = draws.drawBy16();
                    boolean isDue = (due >>> d & 1L) != 0L;
                    if (isDue ? draw >= fails[f] : draw < falses[f]) {
                        felt |= 1L << d;
                    }
                }
                twinges[f] = felt;
            }
        }

        int allTwinges() {
            int many = 0;
            for (int f = 0; f < farmers; f++) {
                many += Long.bitCount(twinges[f]);
            }
            return many;
        }

        int twingesOn(int day) {
            int many = 0;
            for (int f = 0; f < farmers; f++) {
                many += feltOn(f, day);
            }
            return many;
        }

        int twingesShared(int a, int b) {
            return Long.bitCount(twinges[a] & twinges[b]);
        }

        int fitsBy(int f, int lag) {
            long counted = daysThere() & later(daysThere(), -lag);
            return Long.bitCount(counted & ~(twinges[f] ^ later(feltWeather(f), -lag)));
        }

        boolean hasWord(int f, int day) {
            int feltDay = day - lags[f];
            return feltDay >= 0 && feltDay < days && feltDay < cures[f];
        }

        boolean believes(int f, int day) {
            return hasWord(f, day) && feltOn(f, day - lags[f]) == 1;
        }

        int tellersOf(int day) {
            int set = 0;
            for (int f = 0; f < farmers; f++) {
                if (hasWord(f, day)) {
                    set |= 1 << f;
                }
            }
            return set;
        }

        int believersOf(int day) {
            int set = 0;
            for (int f = 0; f < farmers; f++) {
                if (believes(f, day)) {
                    set |= 1 << f;
                }
            }
            return set;
        }

        /** Of which days that are there a farmer tells. */
        long toldDays(int f) {
            return later(feelingDays(f), lags[f]) & daysThere();
        }

        /** Of which days that are there a farmer tells rain. */
        long rainDays(int f) {
            return later(twinges[f] & feelingDays(f), lags[f]) & daysThere();
        }

        long rainDaysOfSet(int set) {
            long told = 0L;
            for (int f = 0; f < farmers; f++) {
                if ((set >>> f & 1) != 0) {
                    told |= rainDays(f);
                }
            }
            return told;
        }

        long rightDays(int f) {
            return toldDays(f) & ~(rainDays(f) ^ feltWeather(f));
        }

        private int weightOf(int set) {
            int sum = 0;
            for (int f = 0; f < farmers; f++) {
                if ((set >>> f & 1) != 0) {
                    sum += weights[f];
                }
            }
            return sum;
        }

        /** What comes of the words of these tellers, of whom those tell rain: 1, 0 or NONE. */
        private int verdict(int law, int tellers, int rainers) {
            if (tellers == 0) {
                return NONE;
            }
            int others = tellers & ~rainers;
            switch (law) {
                case LAW_MOST:
                    return bit(Integer.bitCount(rainers) > Integer.bitCount(others));
                case LAW_WEIGHTS:
                    return bit(weightOf(rainers) > weightOf(others));
                case LAW_ANY:
                    return bit(rainers != 0);
                default:
                    return bit(others == 0);
            }
        }

        int verdictOf(int day) {
            return verdict(vote, tellersOf(day), believersOf(day));
        }

        int tippersOf(int day) {
            int tellers = tellersOf(day);
            int rainers = believersOf(day);
            int said = verdict(vote, tellers, rainers);
            int tippers = 0;
            for (int f = 0; f < farmers; f++) {
                int one = 1 << f;
                if ((tellers & one) != 0 && verdict(vote, tellers, rainers ^ one) != said) {
                    tippers |= one;
                }
            }
            return tippers;
        }

        /** NONE where the bench says nothing. */
        int fewestTurned(int day) {
            int tellers = tellersOf(day);
            int rainers = believersOf(day);
            int said = verdict(vote, tellers, rainers);
            int fewest = NONE;
            for (int set = 1; set < 1 << farmers; set++) {
                int many = Integer.bitCount(set);
                if ((set & ~tellers) == 0 && (fewest == NONE || many < fewest)
                        && verdict(vote, tellers, rainers ^ set) != said) {
                    fewest = many;
                }
            }
            return fewest;
        }

        /** On how many days the bench is right by a law, were a set of farmers to tell nothing. */
        int keptUnder(int law, int without) {
            int many = 0;
            for (int d = 0; d < days; d++) {
                if (verdict(law, tellersOf(d) & ~without, believersOf(d) & ~without) == wetOn(d)) {
                    many++;
                }
            }
            return many;
        }

        int learnOf(int day) {
            int halved = 0;
            for (int f = 0; f < farmers; f++) {
                boolean came = (feltWeather(f) >>> day & 1L) != 0L;
                if (hasWord(f, day) && believes(f, day) != came) {
                    weights[f] = Math.max(1, weights[f] / 2);
                    halved++;
                }
            }
            return halved;
        }

        /** NONE where nobody tells of a day that is there. */
        int mostTrusted() {
            int best = NONE;
            int bestRight = 0;
            int bestTold = 1;
            for (int f = 0; f < farmers; f++) {
                int right = Long.bitCount(rightDays(f));
                int told = Long.bitCount(toldDays(f));
                if (told > 0 && (best == NONE || right * bestTold > bestRight * told)) {
                    best = f;
                    bestRight = right;
                    bestTold = told;
                }
            }
            return best;
        }

        /** The weights of those who tell rain of a day, less those of the others who tell. */
        int leaning(int day) {
            int rainers = believersOf(day);
            return weightOf(rainers) - weightOf(tellersOf(day) & ~rainers);
        }

        /** In how many of 16 to the tellers' number all tell what they told, if it rains or not. */
        private long likelihood(int day, boolean isRain) {
            long product = 1L;
            for (int f = 0; f < farmers; f++) {
                if (hasWord(f, day) && !hasElbow(f)) {
                    int tellsRain = isRain ? SIXTEENTHS - fails[f] : falses[f];
                    product *= believes(f, day) ? tellsRain : SIXTEENTHS - tellsRain;
                }
            }
            return product;
        }

        long rainShare(int day, int p) {
            return p * likelihood(day, true);
        }

        long dryShare(int day, int p) {
            return (SIXTEENTHS - p) * likelihood(day, false);
        }

        private boolean isEnough(int set, int falseAlarms) {
            long told = rainDaysOfSet(set);
            return (wet & ~told) == 0L && Long.bitCount(told & ~wet) <= falseAlarms;
        }

        /** NONE where no set does. */
        int fewestKnees(int falseAlarms) {
            int best = NONE;
            for (int set = 0; set < 1 << farmers; set++) {
                if ((best == NONE || Integer.bitCount(set) < Integer.bitCount(best))
                        && isEnough(set, falseAlarms)) {
                    best = set;
                }
            }
            return best;
        }
    }

    /** The row in which the farmers sit, and how it is found. */
    private static final class Seats {
        /** For a set and one of it: the least that a row of the set costs which that one begins. */
        private final int[] least = new int[(1 << MAX_FARMERS) * MAX_FARMERS];
        private final int[] row = new int[MAX_FARMERS];
        private int taken = 0;

        int seat(Bench bench) {
            int all = (1 << bench.farmers) - 1;
            for (int set = 1; set <= all; set++) {
                for (int first = 0; first < bench.farmers; first++) {
                    if ((set >>> first & 1) != 0) {
                        int rest = set & ~(1 << first);
                        least[set * MAX_FARMERS + first] = cost(bench, first, rest, cheapest(bench, first, rest));
                    }
                }
            }
            return sitDown(bench, all);
        }

        /** What it costs that one sits ahead of the next, who begins the rest. */
        private int cost(Bench bench, int first, int rest, int next) {
            if (next == NONE) {
                return 0;
            }
            int beside = first == NONE ? 0 : bench.dislike(first, next);
            return beside + least[rest * MAX_FARMERS + next];
        }

        /** The first of the rest who costs least behind one; NONE where nobody is left. */
        private int cheapest(Bench bench, int first, int rest) {
            int best = NONE;
            for (int next = 0; next < bench.farmers; next++) {
                if ((rest >>> next & 1) != 0 && (best == NONE
                        || cost(bench, first, rest, next) < cost(bench, first, rest, best))) {
                    best = next;
                }
            }
            return best;
        }

        private int sitDown(Bench bench, int all) {
            int rest = all;
            int last = NONE;
            int sum = cost(bench, NONE, all, cheapest(bench, NONE, all));
            taken = 0;
            for (int k = 0; k < bench.farmers; k++) {
                int next = cheapest(bench, last, rest);
                if (next != NONE) {
                    row[k] = next;
                    rest &= ~(1 << next);
                    last = next;
                    taken = k + 1;
                }
            }
            return sum;
        }
    }

    /** Rows of numbers that the caller fills. */
    private static final class Trays {
        private final long[] numbers = new long[TRAYS * PLACES];
        private final int[] sorts = new int[TRAYS];
        private final int[] sizes = new int[TRAYS];

        Trays() {
            for (int tray = 0; tray < TRAYS; tray++) {
                sizes[tray] = NONE;
            }
        }

        boolean isMissing(int tray) {
            return sizes[tray] == NONE;
        }

        boolean hasPlaces(int tray, int place, int many) {
            return place >= 0 && place <= sizes[tray] && many <= sizes[tray] - place;
        }

        void lay(int tray, int sort, int many) {
            sorts[tray] = sort;
            sizes[tray] = many;
            for (int place = 0; place < many; place++) {
                numbers[tray * PLACES + place] = 0L;
            }
        }

        void put(int tray, int place, long v) {
            numbers[tray * PLACES + place] = cut(sorts[tray], v);
        }

        long at(int tray, int place) {
            return numbers[tray * PLACES + place];
        }

        void move(int from, int place, int to, int at, int many) {
            System.arraycopy(numbers, from * PLACES + place, numbers, to * PLACES + at, many);
        }

        private static long cut(int sort, long v) {
            switch (sort) {
                case 0:
                    return (byte) v;
                case 1:
                    return (short) v;
                case 2:
                    return (int) v;
                default:
                    return v;
            }
        }
    }

    /** The tape, the token of it that is looked at, and the first fault of the latest text. */
    private static final class Tokens {
        private static final int TEXT_END = 0;
        private static final int WORD = 1;
        private static final int NUMBER = 2;
        private static final int SIGN = 3;
        private static final int BLANK = 4;
        private static final int NOTHING = 5;

        private final byte[] tape = new byte[TAPE];
        private final long[] words = new long[WORD_COUNT];
        private int filled = 0;
        private int length = 0;
        private int place = 0;
        private int behind = 0;
        private int kind = TEXT_END;
        /** Letters of 5 bits each; NONE if it is longer than a name can be. */
        private long word = NONE;
        private int keyword = NONE;
        /** What a number is worth, or which byte a sign is. */
        private int value = 0;
        /** The number and the farmer that were passed latest. */
        private int number = 0;
        private int farmer = 0;
        private int fault = NONE;
        private int faultPlace = NONE;

        Tokens() {
            int at = 0;
            long letters = 0L;
            for (int i = 0; i < WORDS.length() && at < WORD_COUNT; i++) {
                char c = WORDS.charAt(i);
                if (c == ' ') {
                    words[at] = letters;
                    at++;
                    letters = 0L;
                } else {
                    letters = withLetter(letters, c);
                }
            }
        }

        private static long withLetter(long letters, int c) {
            return letters << 5 | c - 'a' + 1;
        }

        void append(int four) {
            for (int shift = 24; shift >= 0 && filled < TAPE; shift -= 8) {
                tape[filled] = (byte) (four >>> shift);
                filled++;
            }
        }

        /** Looks at the first token of a text of so many bytes; false where that is a fault. */
        boolean begin(int n) {
            length = n;
            behind = 0;
            fault = 0;
            faultPlace = NONE;
            return advance();
        }

        boolean isAtEnd() {
            return kind == TEXT_END;
        }

        boolean isSign(int c) {
            return kind == SIGN && value == c;
        }

        /** What stands behind this token has not been looked at: so this is the first fault. */
        boolean fail(int kindOfFault) {
            fault = kindOfFault;
            faultPlace = place;
            return false;
        }

        boolean advance() {
            place = behind;
            while (place < length && kindOf(tape[place]) == BLANK) {
                place++;
            }
            kind = place < length ? kindOf(tape[place]) : TEXT_END;
            behind = place;
            word = NONE;
            keyword = NONE;
            switch (kind) {
                case WORD:
                    lookAtWord();
                    return true;
                case NUMBER:
                    lookAtNumber();
                    return behind - place <= NUMBER_DIGITS || fail(FAULT_TOKEN);
                case SIGN:
                    value = tape[place];
                    behind++;
                    return true;
                case TEXT_END:
                    return true;
                default:
                    return fail(FAULT_TOKEN);
            }
        }

        private void lookAtWord() {
            long letters = 0L;
            while (behind < length && kindOf(tape[behind]) == WORD) {
                letters = withLetter(letters, tape[behind]);
                behind++;
            }
            if (behind - place > NAME_LETTERS) {
                return;
            }
            word = letters;
            for (int i = 0; i < WORD_COUNT; i++) {
                if (words[i] == word) {
                    keyword = i;
                }
            }
        }

        private void lookAtNumber() {
            value = 0;
            while (behind < length && kindOf(tape[behind]) == NUMBER) {
                // Longer ones are faults: their worth is not asked for, and must not grow over.
                if (behind - place < NUMBER_DIGITS) {
                    value = value * 10 + tape[behind] - '0';
                }
                behind++;
            }
        }

        boolean passWord(int wanted) {
            return keyword == wanted ? advance() : fail(FAULT_MISPLACED);
        }

        boolean passSign(int c) {
            return isSign(c) ? advance() : fail(FAULT_MISPLACED);
        }

        boolean passNumber(int least, int most) {
            if (kind != NUMBER) {
                return fail(FAULT_MISPLACED);
            }
            if (outside(value, least, most)) {
                return fail(FAULT_NUMBER);
            }
            number = value;
            return advance();
        }

        boolean mustBeName() {
            return kind == WORD && word != NONE && keyword == NONE || fail(FAULT_MISPLACED);
        }

        boolean mustBeFarmer(Bench bench) {
            if (!mustBeName()) {
                return false;
            }
            farmer = bench.farmerNamed(word);
            return farmer != NONE || fail(FAULT_NAME);
        }

        boolean passFarmer(Bench bench) {
            return mustBeFarmer(bench) && advance();
        }

        boolean mustBeLetters() {
            boolean is = kind == WORD && behind - place <= MAX_DAYS;
            for (int i = place; is && i < behind; i++) {
                is = weatherAt(i) != NONE;
            }
            return is || fail(FAULT_MISPLACED);
        }

        int weatherAt(int i) {
            int c = i >= 0 && i < length ? tape[i] : 0;
            switch (c) {
                case 'd':
                    return DRY;
                case 'r':
                    return RAIN;
                case 'h':
                    return HAIL;
                default:
                    return NONE;
            }
        }

        private static int kindOf(int c) {
            if (c >= 'a' && c <= 'z') {
                return WORD;
            }
            if (c >= '0' && c <= '9') {
                return NUMBER;
            }
            if (c == ';' || c == '<' || c == '>' || c == '=') {
                return SIGN;
            }
            return c == 10 || c == 32 ? BLANK : NOTHING;
        }
    }

    /** How the text of a bench is read. */
    private static final class BenchText {
        private final Tokens tokens;
        private final Bench draft;
        private int newcomer = 0;
        private boolean isVoteTold = false;

        BenchText(Tokens tokens, Bench draft) {
            this.tokens = tokens;
            this.draft = draft;
        }

        boolean isRead(int n) {
            draft.empty();
            isVoteTold = false;
            boolean isFine = tokens.begin(n);
            for (int part = 0; part < TAPE && isFine && !tokens.isAtEnd(); part++) {
                isFine = readPart() && tokens.passSign(';');
            }
            if (isFine) {
                draft.settle();
            }
            return isFine;
        }

        private boolean readPart() {
            switch (tokens.keyword) {
                case W_FARMER:
                    return readNewcomer() && readLag() && readKnee() && readCure();
                case W_DISLIKES:
                    return readDislikes();
                case W_WEATHER:
                    return readWeather();
                case W_VOTE:
                    return readVote();
                default:
                    return tokens.fail(FAULT_MISPLACED);
            }
        }

        private boolean readNewcomer() {
            if (draft.farmers >= MAX_FARMERS) {
                return tokens.fail(FAULT_TOO_MANY);
            }
            if (!tokens.advance() || !tokens.mustBeName()) {
                return false;
            }
            if (draft.farmerNamed(tokens.word) != NONE) {
                return tokens.fail(FAULT_NAME);
            }
            newcomer = draft.farmers;
            draft.names[newcomer] = tokens.word;
            draft.farmers++;
            return tokens.advance();
        }

        private boolean readLag() {
            boolean isBehind = tokens.keyword == W_BEHIND;
            if (!tokens.passWord(isBehind ? W_BEHIND : W_AHEAD) || !tokens.passNumber(bit(isBehind), MAX_LAG)) {
                return false;
            }
            draft.lags[newcomer] = isBehind ? -tokens.number : tokens.number;
            return true;
        }

        private boolean readKnee() {
            if (!tokens.passWord(W_FAILS) || !tokens.passNumber(0, SIXTEENTHS)) {
                return false;
            }
            draft.fails[newcomer] = tokens.number;
            if (!tokens.passWord(W_FALSE) || !tokens.passNumber(0, SIXTEENTHS)) {
                return false;
            }
            draft.falses[newcomer] = tokens.number;
            if (tokens.keyword != W_ELBOW) {
                return true;
            }
            draft.elbows |= 1 << newcomer;
            return tokens.advance();
        }

        private boolean readCure() {
            draft.cures[newcomer] = NEVER;
            if (tokens.keyword != W_CURED) {
                return true;
            }
            if (!tokens.passWord(W_CURED) || !tokens.passNumber(0, MAX_DAYS)) {
                return false;
            }
            draft.cures[newcomer] = tokens.number;
            return true;
        }

        private boolean readDislikes() {
            if (!tokens.advance() || !tokens.passFarmer(draft)) {
                return false;
            }
            int first = tokens.farmer;
            if (!tokens.mustBeFarmer(draft)) {
                return false;
            }
            if (tokens.farmer == first) {
                return tokens.fail(FAULT_TWICE);
            }
            if (!tokens.advance() || !tokens.passNumber(0, MAX_DISLIKE)) {
                return false;
            }
            draft.setDislike(first, tokens.farmer, tokens.number);
            return true;
        }

        private boolean readWeather() {
            if (!tokens.advance() || !tokens.mustBeLetters()) {
                return false;
            }
            if (draft.days + tokens.behind - tokens.place > MAX_DAYS) {
                return tokens.fail(FAULT_TOO_MANY);
            }
            for (int i = tokens.place; i < tokens.behind; i++) {
                draft.addDay(tokens.weatherAt(i));
            }
            return tokens.advance();
        }

        private boolean readVote() {
            if (isVoteTold) {
                return tokens.fail(FAULT_TWICE);
            }
            isVoteTold = true;
            if (!tokens.advance()) {
                return false;
            }
            if (outside(tokens.keyword, W_MOST, W_ALL)) {
                return tokens.fail(FAULT_MISPLACED);
            }
            draft.vote = tokens.keyword - W_MOST;
            return tokens.advance();
        }
    }

    /** The steps of a season, and the ends of those that hold others, as they stand in the text. */
    private static final class Season {
        /** Which word each is; of a when: which word its test is. */
        private final int[] kinds = new int[INSTRUCTIONS];
        private final int[] farmers = new int[INSTRUCTIONS];
        private final int[] signs = new int[INSTRUCTIONS];
        private final int[] numbers = new int[INSTRUCTIONS];
        /** Of a when or loop: its end; of an end: what it ends. */
        private final int[] partners = new int[INSTRUCTIONS];
        private int size = 0;
        private int steps = 0;
        private boolean isThere = false;

        void empty() {
            size = 0;
            steps = 0;
            isThere = false;
        }

        boolean hasRoom() {
            return size < INSTRUCTIONS;
        }

        boolean hasPlace(int at) {
            return at >= 0 && at < size;
        }

        void copyFrom(Season other) {
            System.arraycopy(other.kinds, 0, kinds, 0, INSTRUCTIONS);
            System.arraycopy(other.farmers, 0, farmers, 0, INSTRUCTIONS);
            System.arraycopy(other.signs, 0, signs, 0, INSTRUCTIONS);
            System.arraycopy(other.numbers, 0, numbers, 0, INSTRUCTIONS);
            System.arraycopy(other.partners, 0, partners, 0, INSTRUCTIONS);
            size = other.size;
            steps = other.steps;
            isThere = other.isThere;
        }
    }

    /** How the text of a season is read. */
    private static final class SeasonText {
        private final Tokens tokens;
        private final Season draft;
        private final Bench bench;
        private final int[] open = new int[MAX_DEPTH];
        private int depth = 0;
        /** Where the step that is read comes to stand. */
        private int at = 0;

        SeasonText(Tokens tokens, Season draft, Bench bench) {
            this.tokens = tokens;
            this.draft = draft;
            this.bench = bench;
        }

        boolean isRead(int n) {
            draft.empty();
            depth = 0;
            boolean isFine = tokens.begin(n);
            for (int i = 0; i <= INSTRUCTIONS && isFine && !tokens.isAtEnd(); i++) {
                isFine = tokens.keyword == W_END ? readEnd() : readStep() && readRest() && keepRest();
                isFine = isFine && tokens.passSign(';');
            }
            draft.isThere = true;
            return isFine && (depth == 0 || tokens.fail(FAULT_MISPLACED));
        }

        private boolean readEnd() {
            if (depth == 0 || !draft.hasRoom()) {
                return tokens.fail(FAULT_MISPLACED);
            }
            depth--;
            at = draft.size;
            draft.kinds[at] = W_END;
            draft.partners[at] = open[depth];
            draft.partners[open[depth]] = at;
            draft.size++;
            return tokens.advance();
        }

        private boolean readStep() {
            int word = tokens.keyword;
            if (!isStep(word)) {
                return tokens.fail(FAULT_MISPLACED);
            }
            if (draft.steps >= MAX_STEPS || !draft.hasRoom()) {
                return tokens.fail(FAULT_TOO_MANY);
            }
            at = draft.size;
            if (word == W_WHEN || word == W_LOOP) {
                if (depth >= MAX_DEPTH) {
                    return tokens.fail(FAULT_TOO_DEEP);
                }
                open[depth] = at;
                depth++;
            }
            draft.kinds[at] = word;
            draft.size++;
            draft.steps++;
            return tokens.advance();
        }

        private static boolean isStep(int word) {
            return word >= W_RAIN && word <= W_STOP && word != W_ON && word != W_SAYS
                    && word != W_TRUST && word != W_DAYS && word != W_END;
        }

        private boolean readRest() {
            switch (draft.kinds[at]) {
                case W_RAIN:
                    return tokens.passNumber(0, SIXTEENTHS);
                case W_LIE:
                    return readFarmerOn() && tokens.passNumber(0, MAX_DAYS - 1);
                case W_CURE:
                    return readFarmerOn() && tokens.passNumber(0, MAX_DAYS);
                case W_BRANDY:
                    return tokens.passFarmer(bench) && tokens.passNumber(0, SIXTEENTHS);
                case W_LEARN:
                    return tokens.passNumber(0, MAX_DAYS - 1);
                case W_LOOP:
                    return tokens.passNumber(1, MAX_ROUNDS);
                case W_WHEN:
                    return readTest();
                default:
                    return true;
            }
        }

        private boolean readFarmerOn() {
            return tokens.passFarmer(bench) && tokens.passWord(W_ON);
        }

        private boolean readTest() {
            draft.kinds[at] = tokens.keyword;
            switch (tokens.keyword) {
                case W_SAYS:
                    return tokens.advance() && tokens.passNumber(0, LAST_TOLD_DAY);
                case W_TRUST:
                    return tokens.advance() && tokens.passFarmer(bench) && readSign()
                            && tokens.passNumber(0, FULL_WEIGHT);
                case W_DAYS:
                    return tokens.advance() && readSign() && tokens.passNumber(0, MAX_DAYS);
                default:
                    return tokens.fail(FAULT_MISPLACED);
            }
        }

        private boolean readSign() {
            if (!tokens.isSign('<') && !tokens.isSign('>') && !tokens.isSign('=')) {
                return tokens.fail(FAULT_MISPLACED);
            }
            draft.signs[at] = tokens.value;
            return tokens.advance();
        }

        /** Of a step without a number or a farmer: what nobody will ask for. */
        private boolean keepRest() {
            draft.numbers[at] = tokens.number;
            draft.farmers[at] = tokens.farmer;
            return true;
        }
    }

    /** One run through a season, and what came of it. */
    private static final class Life {
        private final Draws draws = new Draws();
        /** How often each loop is still to be gone through. */
        private final int[] rounds = new int[INSTRUCTIONS];
        private int steps = NONE;
        private int missed = 0;
        private int newDays = 0;
        private int wetDays = 0;
        private boolean isCut = false;

        void run(Bench bench, Season season, int seed) {
            draws.begin(seed);
            steps = 0;
            missed = 0;
            newDays = 0;
            wetDays = 0;
            isCut = false;
            int at = 0;
            for (int turn = 0; turn < MAX_TURNS && season.hasPlace(at) && !isCut; turn++) {
                boolean isStep = season.kinds[at] != W_END;
                if (isStep && steps == STEPS_LIVED) {
                    isCut = true;
                } else {
                    steps += bit(isStep);
                    at = follow(bench, season, at);
                }
            }
        }

        /** Does what stands there, and tells where to go on. */
        private int follow(Bench bench, Season season, int at) {
            switch (season.kinds[at]) {
                case W_SAYS:
                case W_TRUST:
                case W_DAYS:
                    return holds(bench, season, at) ? at + 1 : season.partners[at] + 1;
                case W_LOOP:
                    rounds[at] = season.numbers[at];
                    return at + 1;
                case W_END:
                    return goRound(season, at);
                case W_STOP:
                    return season.size;
                default:
                    doStep(bench, season, at);
                    return at + 1;
            }
        }

        private int goRound(Season season, int end) {
            int opener = season.partners[end];
            if (!season.hasPlace(opener) || season.kinds[opener] != W_LOOP) {
                return end + 1;
            }
            rounds[opener]--;
            return rounds[opener] > 0 ? opener + 1 : end + 1;
        }

        private static boolean holds(Bench bench, Season season, int at) {
            int number = season.numbers[at];
            int farmer = season.farmers[at];
            switch (season.kinds[at]) {
                case W_SAYS:
                    return bench.verdictOf(number) == 1;
                case W_TRUST:
                    return bench.hasFarmer(farmer) && compare(bench.weights[farmer], season.signs[at], number);
                default:
                    return compare(bench.days, season.signs[at], number);
            }
        }

        private static boolean compare(int a, int sign, int b) {
            switch (sign) {
                case '<':
                    return a < b;
                case '>':
                    return a > b;
                default:
                    return a == b;
            }
        }

        private void doStep(Bench bench, Season season, int at) {
            int number = season.numbers[at];
            int farmer = season.farmers[at];
            switch (season.kinds[at]) {
                case W_RAIN:
                    addDay(bench, draws.drawBy16() < number ? RAIN : DRY);
                    break;
                case W_HAIL:
                    addDay(bench, HAIL);
                    break;
                case W_DRY:
                    addDay(bench, DRY);
                    break;
                case W_FEEL:
                    bench.feelBy(draws);
                    break;
                case W_CURE:
                    bench.cureOn(farmer, number);
                    break;
                case W_BRANDY:
                    bench.setFalse(farmer, number);
                    break;
                default:
                    lookBack(bench, season, at);
                    break;
            }
        }

        private void addDay(Bench bench, int weather) {
            if (!bench.canAddDay()) {
                missed++;
                return;
            }
            bench.addDay(weather);
            newDays++;
            wetDays += bit(weather != DRY);
        }

        /** A lie or a learning: only of a day that is there. */
        private void lookBack(Bench bench, Season season, int at) {
            int day = season.numbers[at];
            if (day >= bench.days) {
                missed++;
            } else if (season.kinds[at] == W_LIE) {
                bench.turn(season.farmers[at], day);
            } else {
                bench.learnOf(day);
            }
        }
    }

    /** The bench and the season as they were. */
    private static final class Mark {
        private final Bench bench = new Bench();
        private final Season season = new Season();

        void keep(Bench fromBench, Season fromSeason) {
            bench.copyFrom(fromBench);
            season.copyFrom(fromSeason);
        }

        void giveBack(Bench toBench, Season toSeason) {
            toBench.copyFrom(bench);
            toSeason.copyFrom(season);
        }
    }
}
