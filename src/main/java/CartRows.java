/**
 * Rows of lorries on a road, their runs, journeys, shares and clocks, as ../shared/DOC.md promises.
 * Words in capitals in the comments are that document's terms.
 */
public final class CartRows {
    public static final int NONE = -1, UNKNOWN = -2, OUTSIDE = -3, NOT = -4, FULL = -5;

    private static final int LEAST_INT = -2147483648;
    private static final int MAKES = 4;
    private static final int MOST_BYTES = 160;
    private static final int MOST_LINES = 6;
    private static final int MOST_TESTS = 4;
    private static final int MOST_LORRIES = 6;
    private static final int TICKS = 32;
    private static final int MOST_PUSHES = 8;
    private static final int MOST_HILLS = 2;
    private static final int MOST_SPEED = 40;
    private static final int MOST_GAP = 99;
    private static final int MOST_GAP_NEEDED = 60;
    private static final int MOST_WAIT = 4;
    private static final int MOST_LOSSES = 2;
    private static final int FAR_PLACE = 2000;
    private static final int LOSABLE_SETS = 256;
    private static final int MOST_JOURNEYS = 5;
    private static final int LAST_PLACE = 9;
    private static final int LAST_HOUR = 23;
    private static final int MOST_HOURS_APART = 5;
    private static final int PERSONS = 6;
    private static final int CLOCKS = 6;
    private static final int MOST_EVENTS = 12;
    private static final int MOST_AFTERS = 12;

    private static final int READS_GAP = 0, READS_CLOSING = 1, READS_OPENING = 2;
    private static final int READS_SPEED = 3, READS_HEARD = 4, READS_OLD = 5;
    private static final int READINGS = 6;

    private static final int GAP = 0, SPEED = 1, WAIT = 2, SPARE = 3, LATE = 4;
    private static final int SETTINGS = 5;
    private static final int[] LEAST_SETTING = {1, 0, 0, 0, 0};
    private static final int[] MOST_SETTING = {99, 40, 4, 9, 9};

    private static final int[] FACTORIALS = {1, 1, 2, 6, 24, 120, 720};

    private final Text text = new Text();
    private final Road road = new Road();
    private final Run run = new Run();
    private final Journeys journeys = new Journeys();
    private final Shares shares = new Shares();
    private final Clocks clocks = new Clocks();

    public CartRows() {
    }

    // ---- makes, rows

    public int make(int make, int weight, int brake, int pull, int foot) {
        if (isNoMake(make)) {
            return UNKNOWN;
        }
        if (isOutside(weight, 1, 40) || isOutside(brake, 1, 9)
                || isOutside(pull, 1, 5) || isOutside(foot, 0, 3)) {
            return OUTSIDE;
        }
        Make told = road.makes[make];
        told.weight = weight;
        told.brake = brake;
        told.pull = pull;
        told.foot = foot;
        return 1;
    }

    public int write(long bytes, int n) {
        if (isOutside(n, 1, 8)) {
            return OUTSIDE;
        }
        if (text.length + n > MOST_BYTES) {
            return FULL;
        }
        for (int i = 0; i < n; i++) {
            text.add((int) (bytes >> 8 * i & 255));
        }
        return text.length;
    }

    public int erase() {
        int had = text.length;
        text.length = 0;
        return had;
    }

    public int fault() {
        return text.parse();
    }

    public int table(int make) {
        if (isNoMake(make)) {
            return UNKNOWN;
        }
        if (text.parse() != NONE) {
            return NOT;
        }
        Make told = road.makes[make];
        // the two tables change places, so that none is made anew
        Table parsed = text.parsed;
        text.parsed = told.table;
        told.table = parsed;
        text.length = 0;
        return parsed.lines;
    }

    public int row(int row, int n) {
        if (isOutside(n, 1, MOST_LORRIES)) {
            return OUTSIDE;
        }
        road.lorries = n;
        for (int i = 0; i < n; i++) {
            road.makeOf[i] = row >> 2 * i & 3;
        }
        return 1;
    }

    public int set(int what, int v) {
        if (isOutside(what, 0, SETTINGS - 1) || isOutside(v, LEAST_SETTING[what], MOST_SETTING[what])) {
            return OUTSIDE;
        }
        int was = road.settings[what];
        road.settings[what] = v;
        return was;
    }

    public int push(int tick, int v) {
        if (isOutside(tick, 0, TICKS - 1) || isOutside(v, -9, 5)) {
            return OUTSIDE;
        }
        if (road.pushes >= MOST_PUSHES) {
            return FULL;
        }
        road.pushTick[road.pushes] = tick;
        road.pushWish[road.pushes] = v;
        road.pushes++;
        return road.pushes;
    }

    public int calm() {
        int had = road.pushes;
        road.pushes = 0;
        return had;
    }

    public int lose(int ticks) {
        road.lost = ticks;
        return 1;
    }

    public int hill(int from, int to, int weight, int slope) {
        if (areNoPlaces(from, to) || isOutside(weight, 0, 40) || isOutside(slope, 0, MOST_SPEED)) {
            return OUTSIDE;
        }
        if (road.hills >= MOST_HILLS) {
            return FULL;
        }
        road.hillFrom[road.hills] = from;
        road.hillTo[road.hills] = to;
        road.hillWeight[road.hills] = weight;
        road.hillSlope[road.hills] = slope;
        road.hills++;
        return road.hills;
    }

    public int stranger(int lorry, int from, int to, int speed) {
        if (isNoFollower(lorry)) {
            return UNKNOWN;
        }
        if (isOutside(from, 0, TICKS - 1) || isOutside(to, from, TICKS - 1)
                || isOutside(speed, 0, MOST_SPEED)) {
            return OUTSIDE;
        }
        road.strangerLorry = lorry;
        road.strangerFrom = from;
        road.strangerTo = to;
        road.strangerSpeed = speed;
        return 1;
    }

    // ---- runs

    public int at(int lorry, int tick, int what) {
        if (isNoLorry(lorry) || isOutside(tick, 0, TICKS - 1) || isOutside(what, 0, 5)) {
            return LEAST_INT;
        }
        driveAsTold();
        boolean isFirst = lorry == 0;
        switch (what) {
            case 0: return run.speed[lorry][tick + 1];
            case 1: return isFirst ? NONE : run.gap[lorry][tick + 1];
            case 2: return run.place[lorry][tick + 1];
            case 3: return run.wish[lorry][tick];
            case 4: return isFirst ? Run.NOTHING_HEARD : run.heard[tick];
            default: return isFirst ? Run.NEVER_HEARD : run.old[tick];
        }
    }

    public int touch(int what) {
        if (isOutside(what, 0, 1)) {
            return OUTSIDE;
        }
        driveAsTold();
        return what == 0 ? run.touchTick : run.touchLorry;
    }

    public int least(int lorry) {
        if (isNoFollower(lorry)) {
            return LEAST_INT;
        }
        driveAsTold();
        return run.leastGap(lorry);
    }

    public int dip(int lorry) {
        if (isNoLorry(lorry)) {
            return UNKNOWN;
        }
        driveAsTold();
        return run.dipOf(lorry);
    }

    public int grows() {
        driveAsTold();
        int grown = 0;
        for (int lorry = 1; lorry < road.lorries; lorry++) {
            if (run.dipOf(lorry) > run.dipOf(lorry - 1)) {
                grown |= 1 << lorry;
            }
        }
        return grown;
    }

    public int safe(int gap, int w, int l) {
        if (isOutside(gap, 1, MOST_GAP) || areNoChances(w, l)) {
            return OUTSIDE;
        }
        return run.firstTouching(road, gap, w, l) == NONE ? 1 : 0;
    }

    public int need(int w, int l) {
        if (areNoChances(w, l)) {
            return OUTSIDE;
        }
        // What touched with one GAP mostly touches with the next: tried first, it spares a search.
        int bad = 0;
        for (int gap = 1; gap <= MOST_GAP_NEEDED; gap++) {
            if (run.touches(road, gap, bad / LOSABLE_SETS, bad % LOSABLE_SETS)) {
                continue;
            }
            int found = run.firstTouching(road, gap, w, l);
            if (found == NONE) {
                return gap;
            }
            bad = found;
        }
        return NONE;
    }

    public int worst(int gap, int w, int l) {
        if (isOutside(gap, 1, MOST_GAP) || areNoChances(w, l)) {
            return OUTSIDE;
        }
        return run.firstTouching(road, gap, w, l);
    }

    public int sparing() {
        int gap = road.settings[GAP];
        int wait = road.settings[WAIT];
        if (!run.touches(road, gap, wait, road.lost)) {
            return 0;
        }
        int spares = 0;
        for (int tick = 0; tick < TICKS; tick++) {
            int word = 1 << tick;
            if ((road.lost & word) != 0 && !run.touches(road, gap, wait, road.lost & ~word)) {
                spares |= word;
            }
        }
        return spares;
    }

    public int bears(int from, int to) {
        if (areNoPlaces(from, to)) {
            return OUTSIDE;
        }
        driveAsTold();
        int most = 0;
        for (int tick = 0; tick < TICKS; tick++) {
            most = Math.max(most, run.weightBetween(road, from, to, tick));
        }
        return most;
    }

    // ---- journeys, shares

    public int journey(int from, int to, int first, int last, int make) {
        if (isOutside(from, 0, LAST_PLACE) || isOutside(to, from + 1, LAST_PLACE) || isNoMake(make)) {
            return UNKNOWN;
        }
        if (isOutside(first, 0, LAST_HOUR)
                || isOutside(last, first, Math.min(LAST_HOUR, first + MOST_HOURS_APART))) {
            return OUTSIDE;
        }
        if (journeys.number >= MOST_JOURNEYS) {
            return FULL;
        }
        int journey = journeys.number;
        journeys.from[journey] = from;
        journeys.to[journey] = to;
        journeys.first[journey] = first;
        journeys.last[journey] = last;
        journeys.make[journey] = make;
        journeys.number++;
        return journey;
    }

    public int clear() {
        int had = journeys.number;
        journeys.number = 0;
        return had;
    }

    public int best(int what) {
        if (what < -1) {
            return OUTSIDE;
        }
        if (what >= journeys.number) {
            return NONE;
        }
        int leastCost = journeys.findBest(road);
        return what == -1 ? leastCost : journeys.bestHour[what];
    }

    public int judge(int row) {
        for (int i = 0; i < journeys.number; i++) {
            int hour = journeys.first[i] + (row >> 3 * i & 7);
            if (hour > journeys.last[i]) {
                return OUTSIDE;
            }
            journeys.hour[i] = hour;
        }
        return journeys.cost(road);
    }

    public int spared(int person, int ahead, int v) {
        if (isNoPerson(person) || isNoPerson(ahead) || person == ahead) {
            return UNKNOWN;
        }
        if (isOutside(v, 0, 99)) {
            return OUTSIDE;
        }
        int was = shares.sparedBehind[person][ahead];
        shares.sparedBehind[person][ahead] = v;
        return was;
    }

    public int together(int set) {
        if (isOutside(set, 0, (1 << PERSONS) - 1)) {
            return OUTSIDE;
        }
        return shares.sparedOf(set);
    }

    public int share(int person, int n, int part) {
        if (isNoPerson(person)) {
            return UNKNOWN;
        }
        // with no such n there are no first n to be among: of a person that there is, it is n that is wrong
        if (isOutside(n, 1, PERSONS)) {
            return OUTSIDE;
        }
        if (person >= n) {
            return UNKNOWN;
        }
        switch (part) {
            case 0: return shares.above(person, n);
            case 1: return shares.below(person, n);
            case 2: return shares.coins(person, n);
            default: return OUTSIDE;
        }
    }

    // ---- clocks

    public int clock(int clock, int off) {
        if (isNoClock(clock)) {
            return UNKNOWN;
        }
        if (isOutside(off, 0, 60)) {
            return OUTSIDE;
        }
        int was = clocks.off[clock];
        clocks.off[clock] = off;
        return was;
    }

    public int event(int clock, int time) {
        if (isNoClock(clock)) {
            return UNKNOWN;
        }
        if (isOutside(time, 0, 999)) {
            return OUTSIDE;
        }
        if (clocks.events >= MOST_EVENTS) {
            return FULL;
        }
        int event = clocks.events;
        clocks.eventClock[event] = clock;
        clocks.eventTime[event] = time;
        clocks.events++;
        return event;
    }

    public int after(int one, int two, int v) {
        if (isNoEvent(one) || isNoEvent(two) || one == two) {
            return UNKNOWN;
        }
        if (isOutside(v, 0, 99)) {
            return OUTSIDE;
        }
        if (clocks.afters >= MOST_AFTERS) {
            return FULL;
        }
        clocks.afterOne[clocks.afters] = one;
        clocks.afterTwo[clocks.afters] = two;
        clocks.afterBy[clocks.afters] = v;
        clocks.afters++;
        return clocks.afters;
    }

    public int agree() {
        return clocks.layTogether() ? 1 : 0;
    }

    public int span(int event, int what) {
        if (isNoEvent(event) || isOutside(what, 0, 1) || !clocks.layTogether()) {
            return LEAST_INT;
        }
        return what == 0 ? clocks.earliest(event) : clocks.latest(event);
    }

    public int count(int what) {
        switch (what) {
            case 0: return road.lorries;
            case 1: return road.pushes;
            case 2: return road.hills;
            case 3: return journeys.number;
            case 4: return clocks.events;
            case 5: return clocks.afters;
            case 6: return text.length;
            default: return OUTSIDE;
        }
    }

    // ---- what the calls share

    private static boolean isOutside(int v, int least, int most) {
        return v < least || v > most;
    }

    private static boolean isNoMake(int make) {
        return isOutside(make, 0, MAKES - 1);
    }

    private static boolean isNoPerson(int person) {
        return isOutside(person, 0, PERSONS - 1);
    }

    private static boolean isNoClock(int clock) {
        return isOutside(clock, 0, CLOCKS - 1);
    }

    private boolean isNoEvent(int event) {
        return isOutside(event, 0, clocks.events - 1);
    }

    private boolean isNoLorry(int lorry) {
        return isOutside(lorry, 0, road.lorries - 1);
    }

    private boolean isNoFollower(int lorry) {
        return isOutside(lorry, 1, road.lorries - 1);
    }

    private static boolean areNoPlaces(int from, int to) {
        return isOutside(from, 0, FAR_PLACE) || isOutside(to, from, FAR_PLACE);
    }

    private static boolean areNoChances(int w, int l) {
        return isOutside(w, 0, MOST_WAIT) || isOutside(l, 0, MOST_LOSSES);
    }

    private void driveAsTold() {
        run.drive(road, road.settings[GAP], road.settings[WAIT], road.lost);
    }

    /** A MAKE. One without a TABLE holds a table of no lines, by which every wish is 0 as well. */
    private static final class Make {
        int weight = 1;
        int brake = 4;
        int pull = 2;
        int foot = 0;
        Table table = new Table();

        int bounded(int wish) {
            return Math.max(-brake, Math.min(pull, wish));
        }
    }

    /** The LINES of a text: each a wish, slower ones below 0, and the TESTS it hangs on. */
    private static final class Table {
        int lines = 0;
        final int[] wish = new int[MOST_LINES];
        final int[] tests = new int[MOST_LINES];
        final int[][] reading = new int[MOST_LINES][MOST_TESTS];
        final int[][] bound = new int[MOST_LINES][MOST_TESTS];
        /** 1: the reading is to be above the bound, 0: below it. */
        final int[][] above = new int[MOST_LINES][MOST_TESTS];

        int wishBy(int[] readings) {
            for (int line = 0; line < lines; line++) {
                if (holds(line, readings)) {
                    return wish[line];
                }
            }
            return 0;
        }

        private boolean holds(int line, int[] readings) {
            for (int test = 0; test < tests[line]; test++) {
                int read = readings[reading[line][test]];
                int limit = bound[line][test];
                boolean passes = above[line][test] == 1 ? read > limit : read < limit;
                if (!passes) {
                    return false;
                }
            }
            return true;
        }
    }

    /** THE TEXT, and its reading token by token into a table. */
    private static final class Text {
        private static final int BLANK = 32;
        private static final int SEMICOLON = 59;
        private static final int LETTER = 0, DIGIT = 1, SIGN = 2;

        final int[] bytes = new int[MOST_BYTES];
        int length = 0;
        /** Whole only when the last parse found no FAULT. */
        Table parsed = new Table();

        /** The token read last: its first byte, and the one behind its last. */
        private int start = 0;
        private int end = 0;

        void add(int value) {
            if (length < MOST_BYTES) {
                bytes[length] = value;
                length++;
            }
        }

        /** The place of the FAULT, or NONE. */
        int parse() {
            end = 0;
            for (int line = 0; line < MOST_LINES; line++) {
                advance();
                if (!parseLine(line)) {
                    return start;
                }
                if (isAtEnd()) {
                    parsed.lines = line + 1;
                    return NONE;
                }
                if (!isSign(SEMICOLON)) {
                    return start;
                }
            }
            return start;
        }

        private boolean parseLine(int line) {
            parsed.tests[line] = 0;
            if (!parseWish(line)) {
                return false;
            }
            if (!isWord("when")) {
                return true;
            }
            for (int test = 0; test < MOST_TESTS; test++) {
                advance();
                if (!parseTest(line, test)) {
                    return false;
                }
                parsed.tests[line] = test + 1;
                if (!isWord("and")) {
                    return true;
                }
            }
            return false;
        }

        private boolean parseWish(int line) {
            if (isWord("keep")) {
                parsed.wish[line] = 0;
                advance();
                return true;
            }
            boolean slower = isWord("slow");
            if (!slower && !isWord("fast")) {
                return false;
            }
            advance();
            if (!isNumber()) {
                return false;
            }
            parsed.wish[line] = slower ? -number() : number();
            advance();
            return true;
        }

        private boolean parseTest(int line, int test) {
            int reading = readingNamed();
            if (reading == NONE) {
                return false;
            }
            parsed.reading[line][test] = reading;
            advance();
            boolean above = isWord("above");
            if (!above && !isWord("below")) {
                return false;
            }
            parsed.above[line][test] = above ? 1 : 0;
            advance();
            if (!isNumber()) {
                return false;
            }
            parsed.bound[line][test] = number();
            advance();
            return true;
        }

        private int readingNamed() {
            if (isWord("gap")) {
                return READS_GAP;
            }
            if (isWord("closing")) {
                return READS_CLOSING;
            }
            if (isWord("opening")) {
                return READS_OPENING;
            }
            if (isWord("speed")) {
                return READS_SPEED;
            }
            if (isWord("heard")) {
                return READS_HEARD;
            }
            return isWord("old") ? READS_OLD : NONE;
        }

        private void advance() {
            start = end;
            while (start < length && bytes[start] == BLANK) {
                start++;
            }
            end = start;
            if (isAtEnd()) {
                return;
            }
            int kind = kindOf(bytes[start]);
            end++;
            while (kind != SIGN && end < length && kindOf(bytes[end]) == kind) {
                end++;
            }
        }

        private static int kindOf(int value) {
            if (value >= 'a' && value <= 'z') {
                return LETTER;
            }
            return isDigit(value) ? DIGIT : SIGN;
        }

        private static boolean isDigit(int value) {
            return value >= '0' && value <= '9';
        }

        private boolean isAtEnd() {
            return start >= length;
        }

        private boolean isSign(int sign) {
            return !isAtEnd() && bytes[start] == sign;
        }

        private boolean isWord(String word) {
            if (end - start != word.length()) {
                return false;
            }
            for (int i = 0; i < word.length(); i++) {
                if (bytes[start + i] != word.charAt(i)) {
                    return false;
                }
            }
            return true;
        }

        private boolean isNumber() {
            return !isAtEnd() && isDigit(bytes[start]) && end - start <= 2;
        }

        private int number() {
            int value = 0;
            for (int i = start; i < end; i++) {
                value = 10 * value + bytes[i] - '0';
            }
            return value;
        }
    }

    /** All that is told of MAKES, THE ROW and its road, with what is SET. */
    private static final class Road {
        final Make[] makes = {new Make(), new Make(), new Make(), new Make()};
        int lorries = 1;
        final int[] makeOf = new int[MOST_LORRIES];
        /** GAP, SPEED, WAIT, SPARE, LATE. */
        final int[] settings = {10, 20, 1, 2, 1};
        int lost = 0;

        int pushes = 0;
        final int[] pushTick = new int[MOST_PUSHES];
        final int[] pushWish = new int[MOST_PUSHES];

        int hills = 0;
        final int[] hillFrom = new int[MOST_HILLS];
        final int[] hillTo = new int[MOST_HILLS];
        final int[] hillWeight = new int[MOST_HILLS];
        final int[] hillSlope = new int[MOST_HILLS];

        /** 0, the FIRST, ahead of which none can come: there is no STRANGER yet. */
        int strangerLorry = 0;
        int strangerFrom = 0;
        int strangerTo = 0;
        int strangerSpeed = 0;

        Make makeOfLorry(int lorry) {
            return makes[makeOf[lorry]];
        }

        int pushIn(int tick) {
            int wish = 0;
            for (int i = 0; i < pushes; i++) {
                if (pushTick[i] == tick) {
                    wish = pushWish[i];
                }
            }
            return wish;
        }

        int mostSpeed(int weight, int place) {
            int most = MOST_SPEED;
            for (int i = 0; i < hills; i++) {
                boolean isThere = place >= hillFrom[i] && place <= hillTo[i];
                if (isThere && weight > hillWeight[i]) {
                    most = Math.min(most, hillSlope[i]);
                }
            }
            return most;
        }

        boolean hasStrangerAhead(int lorry, int tick) {
            return lorry > 0 && lorry == strangerLorry && tick >= strangerFrom && tick <= strangerTo;
        }
    }

    /** One RUN of THE ROW. Speeds, gaps and places at [lorry][t] are those as TICK t begins. */
    private static final class Run {
        private static final int FIRST_PLACE = 300;
        static final int NOTHING_HEARD = 0;
        static final int NEVER_HEARD = 99;

        final int[][] speed = new int[MOST_LORRIES][TICKS + 1];
        final int[][] gap = new int[MOST_LORRIES][TICKS + 1];
        final int[][] place = new int[MOST_LORRIES][TICKS + 1];
        final int[][] wish = new int[MOST_LORRIES][TICKS];
        final int[] heard = new int[TICKS];
        final int[] old = new int[TICKS];
        int touchTick = NONE;
        int touchLorry = NONE;

        private final int[] readings = new int[READINGS];
        private int strangerGap = 0;

        void drive(Road road, int gapAtFirst, int wait, int lost) {
            begin(road, gapAtFirst);
            for (int tick = 0; tick < TICKS; tick++) {
                pass(road, tick, wait, lost);
            }
        }

        /** Whether any TOUCH; the run ends with the TICK in which they do. */
        boolean touches(Road road, int gapAtFirst, int wait, int lost) {
            begin(road, gapAtFirst);
            for (int tick = 0; tick < TICKS && touchTick == NONE; tick++) {
                pass(road, tick, wait, lost);
            }
            return touchTick != NONE;
        }

        /** WORST: 256 WAIT and LOST, or NONE. */
        int firstTouching(Road road, int gapAtFirst, int mostWait, int losses) {
            for (int wait = 0; wait <= mostWait; wait++) {
                // with WAIT 0 words are heard as with WAIT 1, so these runs have all been made
                if (wait == 1) {
                    continue;
                }
                for (int lost = 0; lost < LOSABLE_SETS; lost++) {
                    if (Integer.bitCount(lost) <= losses && touches(road, gapAtFirst, wait, lost)) {
                        return LOSABLE_SETS * wait + lost;
                    }
                }
            }
            return NONE;
        }

        int leastGap(int lorry) {
            int leastYet = gap[lorry][1];
            for (int t = 2; t <= TICKS; t++) {
                leastYet = Math.min(leastYet, gap[lorry][t]);
            }
            return leastYet;
        }

        int dipOf(int lorry) {
            int leastYet = speed[lorry][0];
            for (int t = 1; t <= TICKS; t++) {
                leastYet = Math.min(leastYet, speed[lorry][t]);
            }
            return speed[lorry][0] - leastYet;
        }

        int weightBetween(Road road, int from, int to, int tick) {
            int weight = 0;
            for (int lorry = 0; lorry < road.lorries; lorry++) {
                int there = place[lorry][tick + 1];
                if (there >= from && there <= to) {
                    weight += road.makeOfLorry(lorry).weight;
                }
            }
            return weight;
        }

        private void begin(Road road, int gapAtFirst) {
            touchTick = NONE;
            touchLorry = NONE;
            for (int lorry = 0; lorry < road.lorries; lorry++) {
                speed[lorry][0] = road.settings[SPEED];
                gap[lorry][0] = gapAtFirst;
                place[lorry][0] = FIRST_PLACE - lorry * gapAtFirst;
            }
        }

        private void pass(Road road, int tick, int wait, int lost) {
            if (tick == road.strangerFrom) {
                meetStranger(road, tick);
            }
            hear(tick, wait, lost);
            wish[0][tick] = road.makeOfLorry(0).bounded(road.pushIn(tick));
            for (int lorry = 1; lorry < road.lorries; lorry++) {
                read(road, lorry, tick);
                Make make = road.makeOfLorry(lorry);
                wish[lorry][tick] = make.bounded(make.table.wishBy(readings));
            }
            for (int lorry = 0; lorry < road.lorries; lorry++) {
                speed[lorry][tick + 1] = speedBehind(road, lorry, tick);
            }
            go(road, tick);
            noteTouch(road, tick);
        }

        private void meetStranger(Road road, int tick) {
            int lorry = road.strangerLorry;
            if (lorry > 0 && lorry < road.lorries) {
                strangerGap = gap[lorry][tick] / 2;
            }
        }

        private void hear(int tick, int wait, int lost) {
            heard[tick] = NOTHING_HEARD;
            old[tick] = NEVER_HEARD;
            // a word of this very TICK can't have been heard as it began
            for (int said = tick - Math.max(1, wait); said >= 0; said--) {
                if ((lost >> said & 1) == 0) {
                    heard[tick] = Math.max(0, -wish[0][said]);
                    old[tick] = tick - said;
                    return;
                }
            }
        }

        private void read(Road road, int lorry, int tick) {
            boolean isStranger = road.hasStrangerAhead(lorry, tick);
            int speedAhead = isStranger ? road.strangerSpeed : speed[lorry - 1][tick];
            int gapAhead = isStranger ? strangerGap : gap[lorry][tick];
            int own = speed[lorry][tick];
            readings[READS_GAP] = Math.min(MOST_GAP, gapAhead);
            readings[READS_CLOSING] = Math.max(0, own - speedAhead);
            readings[READS_OPENING] = Math.max(0, speedAhead - own);
            readings[READS_SPEED] = own;
            readings[READS_HEARD] = heard[tick];
            readings[READS_OLD] = old[tick];
        }

        private int speedBehind(Road road, int lorry, int tick) {
            Make make = road.makeOfLorry(lorry);
            int cameUp = tick - make.foot;
            int done = cameUp < 0 ? 0 : wish[lorry][cameUp];
            int most = road.mostSpeed(make.weight, place[lorry][tick]);
            return Math.max(0, Math.min(most, speed[lorry][tick] + done));
        }

        private void go(Road road, int tick) {
            for (int lorry = 0; lorry < road.lorries; lorry++) {
                int own = speed[lorry][tick + 1];
                place[lorry][tick + 1] = place[lorry][tick] + own;
                if (lorry > 0) {
                    gap[lorry][tick + 1] = gap[lorry][tick] + speed[lorry - 1][tick + 1] - own;
                }
                if (road.hasStrangerAhead(lorry, tick)) {
                    strangerGap += road.strangerSpeed - own;
                }
            }
        }

        private void noteTouch(Road road, int tick) {
            for (int lorry = 1; lorry < road.lorries && touchTick == NONE; lorry++) {
                boolean touchesStranger = road.hasStrangerAhead(lorry, tick) && strangerGap <= 0;
                if (gap[lorry][tick + 1] <= 0 || touchesStranger) {
                    touchTick = tick;
                    touchLorry = lorry;
                }
            }
        }
    }

    /** JOURNEYS, what HOURS of leaving cost, and the BEST of them. */
    private static final class Journeys {
        int number = 0;
        final int[] from = new int[MOST_JOURNEYS];
        final int[] to = new int[MOST_JOURNEYS];
        final int[] first = new int[MOST_JOURNEYS];
        final int[] last = new int[MOST_JOURNEYS];
        final int[] make = new int[MOST_JOURNEYS];

        /** The HOURS of leaving that are judged, and the BEST found. */
        final int[] hour = new int[MOST_JOURNEYS];
        final int[] bestHour = new int[MOST_JOURNEYS];

        int cost(Road road) {
            int all = 0;
            for (int i = 0; i < number; i++) {
                all += road.settings[LATE] * (hour[i] - first[i]);
                for (int place = from[i]; place < to[i]; place++) {
                    all += burnt(road, i, place);
                }
            }
            return all;
        }

        private int burnt(Road road, int journey, int place) {
            int weight = road.makes[make[journey]].weight;
            for (int other = 0; other < number; other++) {
                if (other != journey && leavesWith(journey, other, place)
                        && leads(road, other, journey)) {
                    return Math.max(1, weight - road.settings[SPARE]);
                }
            }
            return weight;
        }

        private boolean leavesWith(int journey, int other, int place) {
            return place >= from[other] && place < to[other]
                    && hour[other] - from[other] == hour[journey] - from[journey];
        }

        private boolean leads(Road road, int one, int other) {
            int weight = road.makes[make[one]].weight;
            int otherWeight = road.makes[make[other]].weight;
            return weight > otherWeight || weight == otherWeight && one < other;
        }

        int findBest(Road road) {
            for (int i = 0; i < number; i++) {
                hour[i] = first[i];
            }
            int leastCost = cost(road);
            System.arraycopy(hour, 0, bestHour, 0, MOST_JOURNEYS);
            int choices = choices();
            for (int choice = 1; choice < choices; choice++) {
                turn();
                int cost = cost(road);
                if (cost < leastCost) {
                    leastCost = cost;
                    System.arraycopy(hour, 0, bestHour, 0, MOST_JOURNEYS);
                }
            }
            return leastCost;
        }

        private int choices() {
            int all = 1;
            for (int i = 0; i < number; i++) {
                all *= last[i] - first[i] + 1;
            }
            return all;
        }

        /** The next HOURS by the order of JOURNEYS: the last one's change fastest. */
        private void turn() {
            for (int i = number - 1; i >= 0; i--) {
                if (hour[i] < last[i]) {
                    hour[i]++;
                    return;
                }
                hour[i] = first[i];
            }
        }
    }

    /** What persons are SPARED, and their SHARES of it. */
    private static final class Shares {
        final int[][] sparedBehind = new int[PERSONS][PERSONS];

        int sparedOf(int set) {
            int all = 0;
            int ahead = NONE;
            for (int person = 0; person < PERSONS; person++) {
                if ((set >> person & 1) == 0) {
                    continue;
                }
                if (ahead != NONE) {
                    all += sparedBehind[person][ahead];
                }
                ahead = person;
            }
            return all;
        }

        int above(int person, int n) {
            int sum = sumOverOrders(person, n);
            return sum / greatestDivisor(sum, FACTORIALS[n]);
        }

        int below(int person, int n) {
            int orders = FACTORIALS[n];
            return orders / greatestDivisor(sumOverOrders(person, n), orders);
        }

        int coins(int person, int n) {
            int orders = FACTORIALS[n];
            int rest = sparedOf((1 << n) - 1);
            int cutOff = Math.floorMod(sumOverOrders(person, n), orders);
            int preferred = 0;
            for (int other = 0; other < n; other++) {
                int sum = sumOverOrders(other, n);
                rest -= Math.floorDiv(sum, orders);
                int otherCutOff = Math.floorMod(sum, orders);
                if (otherCutOff > cutOff || otherCutOff == cutOff && other < person) {
                    preferred++;
                }
            }
            int whole = Math.floorDiv(sumOverOrders(person, n), orders);
            return preferred < rest ? whole + 1 : whole;
        }

        /** SHARE times the number of all orders. */
        private int sumOverOrders(int person, int n) {
            int sum = 0;
            for (int ahead = 0; ahead < 1 << n; ahead++) {
                if ((ahead >> person & 1) != 0) {
                    continue;
                }
                int size = Integer.bitCount(ahead);
                int orders = FACTORIALS[size] * FACTORIALS[n - 1 - size];
                sum += orders * (sparedOf(ahead | 1 << person) - sparedOf(ahead));
            }
            return sum;
        }

        /** Of any number and one above 0; 1 at least, so that it may divide. */
        private static int greatestDivisor(int any, int aboveZero) {
            for (int divisor = aboveZero; divisor > 1; divisor--) {
                if (aboveZero % divisor == 0 && any % divisor == 0) {
                    return divisor;
                }
            }
            return 1;
        }
    }

    /** CLOCKS and EVENTS; a true time is the told one and how much its CLOCK lags behind. */
    private static final class Clocks {
        /** Stands beside the CLOCKS for one that is never off. */
        private static final int TRUE_CLOCK = CLOCKS;

        final int[] off = new int[CLOCKS + 1];
        int events = 0;
        final int[] eventClock = new int[MOST_EVENTS];
        final int[] eventTime = new int[MOST_EVENTS];
        int afters = 0;
        final int[] afterOne = new int[MOST_AFTERS];
        final int[] afterTwo = new int[MOST_AFTERS];
        final int[] afterBy = new int[MOST_AFTERS];

        /** At [i][j]: by how much at most i can lag more than j. */
        private final int[][] lag = new int[CLOCKS + 1][CLOCKS + 1];

        /** Whether they AGREE; then the lags are as narrow as all that is told makes them. */
        boolean layTogether() {
            startLags();
            for (int i = 0; i < afters; i++) {
                heedAfter(afterOne[i], afterTwo[i], afterBy[i]);
            }
            narrowLags();
            for (int i = 0; i <= CLOCKS; i++) {
                if (lag[i][i] < 0) {
                    return false;
                }
            }
            return true;
        }

        int earliest(int event) {
            return eventTime[event] - lag[TRUE_CLOCK][eventClock[event]];
        }

        int latest(int event) {
            return eventTime[event] + lag[eventClock[event]][TRUE_CLOCK];
        }

        private void startLags() {
            for (int i = 0; i <= CLOCKS; i++) {
                for (int j = 0; j <= CLOCKS; j++) {
                    lag[i][j] = i == j ? 0 : off[i] + off[j];
                }
            }
        }

        private void heedAfter(int one, int two, int by) {
            int most = eventTime[two] - eventTime[one] - by;
            int i = eventClock[one];
            int j = eventClock[two];
            lag[i][j] = Math.min(lag[i][j], most);
        }

        private void narrowLags() {
            for (int via = 0; via <= CLOCKS; via++) {
                for (int i = 0; i <= CLOCKS; i++) {
                    for (int j = 0; j <= CLOCKS; j++) {
                        lag[i][j] = Math.min(lag[i][j], lag[i][via] + lag[via][j]);
                    }
                }
            }
        }
    }
}
