import java.util.ArrayList;
import java.util.Arrays;
import java.util.List;
import java.util.TreeMap;

/**
 * The document told a second time, in the plainest Java and by other ways than the class goes where there are some:
 * what OracleTest holds the class against. It has the same calls.
 */
public final class Model {
    static final int LEAST_INT = Integer.MIN_VALUE;

    private record Test(String reading, boolean above, int n) {
    }

    private record Line(int wish, List<Test> tests) {
    }

    private record Token(String text, int place) {
    }

    private record Hill(int from, int to, int weight, int slope) {
    }

    private record Stranger(int lorry, int from, int to, int speed) {
    }

    private record Journey(int from, int to, int first, int last, int make) {
    }

    private final int[] weight = {1, 1, 1, 1};
    private final int[] brake = {4, 4, 4, 4};
    private final int[] pull = {2, 2, 2, 2};
    private final int[] foot = {0, 0, 0, 0};
    private final List<List<Line>> tables = new ArrayList<>(List.of(List.of(), List.of(), List.of(), List.of()));
    private String text = "";
    private int[] row = {0};
    private final int[] settings = {10, 20, 1, 2, 1};
    private final List<int[]> pushes = new ArrayList<>();
    private int lost = 0;
    private final List<Hill> hills = new ArrayList<>();
    private Stranger stranger = null;
    private final List<Journey> journeys = new ArrayList<>();
    private final int[][] spared = new int[6][6];
    private final int[] off = new int[6];
    private final List<int[]> events = new ArrayList<>();
    private final List<int[]> afters = new ArrayList<>();

    private static boolean in(int v, int least, int most) {
        return least <= v && v <= most;
    }

    // ---- makes, rows

    public int make(int make, int weight, int brake, int pull, int foot) {
        if (!in(make, 0, 3)) {
            return -2;
        }
        if (!in(weight, 1, 40) || !in(brake, 1, 9) || !in(pull, 1, 5) || !in(foot, 0, 3)) {
            return -3;
        }
        this.weight[make] = weight;
        this.brake[make] = brake;
        this.pull[make] = pull;
        this.foot[make] = foot;
        return 1;
    }

    public int write(long bytes, int n) {
        if (!in(n, 1, 8)) {
            return -3;
        }
        if (text.length() + n > 160) {
            return -5;
        }
        for (int i = 0; i < n; i++) {
            text += (char) (bytes >>> 8 * i & 255);
        }
        return text.length();
    }

    public int erase() {
        int had = text.length();
        text = "";
        return had;
    }

    public int fault() {
        return parse(new ArrayList<>());
    }

    public int table(int make) {
        if (!in(make, 0, 3)) {
            return -2;
        }
        List<Line> lines = new ArrayList<>();
        if (parse(lines) != -1) {
            return -4;
        }
        tables.set(make, lines);
        text = "";
        return lines.size();
    }

    private List<Token> tokens() {
        List<Token> all = new ArrayList<>();
        java.util.regex.Matcher m = java.util.regex.Pattern.compile("[a-z]+|[0-9]+|[^ a-z0-9]",
            java.util.regex.Pattern.DOTALL).matcher(text);
        while (m.find()) {
            all.add(new Token(m.group(), m.start()));
        }
        all.add(new Token("", text.length()));
        return all;
    }

    /** A machine of states, each with what may stand next. */
    private int parse(List<Line> lines) {
        String state = "wish";
        int wish = 0;
        String reading = "";
        boolean above = false;
        List<Test> tests = new ArrayList<>();
        for (Token token : tokens()) {
            String t = token.text();
            boolean number = t.matches("[0-9]{1,2}");
            boolean endOfLine = t.isEmpty() || t.equals(";") && lines.size() < 5;
            if (state.equals("wish") && t.equals("keep")) {
                wish = 0;
                state = "when";
            } else if (state.equals("wish") && (t.equals("slow") || t.equals("fast"))) {
                state = t;
            } else if ((state.equals("slow") || state.equals("fast")) && number) {
                wish = Integer.parseInt(t) * (state.equals("slow") ? -1 : 1);
                state = "when";
            } else if (state.equals("when") && t.equals("when")
                || state.equals("and") && t.equals("and") && tests.size() < 4) {
                state = "reading";
            } else if (state.equals("reading")
                && List.of("gap", "closing", "opening", "speed", "heard", "old").contains(t)) {
                reading = t;
                state = "side";
            } else if (state.equals("side") && (t.equals("below") || t.equals("above"))) {
                above = t.equals("above");
                state = "bound";
            } else if (state.equals("bound") && number) {
                tests.add(new Test(reading, above, Integer.parseInt(t)));
                state = "and";
            } else if ((state.equals("when") || state.equals("and")) && endOfLine) {
                lines.add(new Line(wish, tests));
                tests = new ArrayList<>();
                state = "wish";
            } else {
                return token.place();
            }
        }
        return -1;
    }

    public int row(int row, int n) {
        if (!in(n, 1, 6)) {
            return -3;
        }
        this.row = new int[n];
        for (int i = 0; i < n; i++) {
            this.row[i] = (row >>> 2 * i) % 4 & 3;
        }
        return 1;
    }

    public int set(int what, int v) {
        int[] least = {1, 0, 0, 0, 0};
        int[] most = {99, 40, 4, 9, 9};
        if (!in(what, 0, 4) || !in(v, least[what], most[what])) {
            return -3;
        }
        int was = settings[what];
        settings[what] = v;
        return was;
    }

    public int push(int tick, int v) {
        if (!in(tick, 0, 31) || !in(v, -9, 5)) {
            return -3;
        }
        if (pushes.size() == 8) {
            return -5;
        }
        pushes.add(new int[] {tick, v});
        return pushes.size();
    }

    public int calm() {
        int had = pushes.size();
        pushes.clear();
        return had;
    }

    public int lose(int ticks) {
        lost = ticks;
        return 1;
    }

    public int hill(int from, int to, int weight, int slope) {
        if (!in(from, 0, 2000) || !in(to, 0, 2000) || to < from || !in(weight, 0, 40) || !in(slope, 0, 40)) {
            return -3;
        }
        if (hills.size() == 2) {
            return -5;
        }
        hills.add(new Hill(from, to, weight, slope));
        return hills.size();
    }

    public int stranger(int lorry, int from, int to, int speed) {
        if (!in(lorry, 1, row.length - 1)) {
            return -2;
        }
        if (!in(from, 0, 31) || !in(to, 0, 31) || to < from || !in(speed, 0, 40)) {
            return -3;
        }
        stranger = new Stranger(lorry, from, to, speed);
        return 1;
    }

    // ---- runs

    /** A run, all of it kept: index tick, or tick + 1 for what is behind a tick. Only places are driven; gaps follow. */
    private final class Drive {
        final int n = row.length;
        final int[][] place = new int[33][n];
        final int[][] speed = new int[33][n];
        final int[][] wish = new int[32][n];
        final int[] heard = new int[32];
        final int[] old = new int[32];
        final boolean[][] touch = new boolean[32][n];
        /** Told words by the tick in which they are heard. */
        final TreeMap<Integer, int[]> words = new TreeMap<>();
        int strangerPlace = 0;

        Drive(int gap, int wait, int lost) {
            for (int i = 0; i < n; i++) {
                place[0][i] = 300 - gap * i;
                speed[0][i] = settings[1];
            }
            for (int t = 0; t < 32; t++) {
                tick(t, wait, lost);
            }
        }

        boolean strangerIn(int t, int i) {
            return stranger != null && stranger.lorry() == i && in(t, stranger.from(), stranger.to());
        }

        void tick(int t, int wait, int lost) {
            var word = words.floorEntry(t);
            heard[t] = word == null ? 0 : word.getValue()[1];
            old[t] = word == null ? 99 : t - word.getValue()[0];
            for (int i = 0; i < n; i++) {
                if (strangerIn(t, i) && t == stranger.from()) {
                    strangerPlace = place[t][i] + (place[t][i - 1] - place[t][i]) / 2;
                }
                wish[t][i] = i == 0 ? firstWish(t) : wishOf(t, i);
            }
            if ((lost >>> t & 1) == 0) {
                words.put(wait == 0 ? t + 1 : t + wait, new int[] {t, wish[t][0] < 0 ? -wish[t][0] : 0});
            }
            for (int i = 0; i < n; i++) {
                int done = t - foot[row[i]] >= 0 ? wish[t - foot[row[i]]][i] : 0;
                int v = Math.min(40, Math.max(0, speed[t][i] + done));
                for (Hill hill : hills) {
                    if (weight[row[i]] > hill.weight() && in(place[t][i], hill.from(), hill.to())) {
                        v = Math.min(v, hill.slope());
                    }
                }
                speed[t + 1][i] = v;
                place[t + 1][i] = place[t][i] + v;
            }
            if (stranger != null) {
                strangerPlace += stranger.speed();
            }
            for (int i = 1; i < n; i++) {
                touch[t][i] = place[t + 1][i] >= place[t + 1][i - 1]
                    || strangerIn(t, i) && place[t + 1][i] >= strangerPlace;
            }
        }

        int firstWish(int t) {
            int v = 0;
            for (int[] push : pushes) {
                v = push[0] == t ? push[1] : v;
            }
            return bounded(v, 0);
        }

        int bounded(int v, int i) {
            return v < 0 ? -Math.min(-v, brake[row[i]]) : Math.min(v, pull[row[i]]);
        }

        int wishOf(int t, int i) {
            int ahead = strangerIn(t, i) ? stranger.speed() : speed[t][i - 1];
            int gap = (strangerIn(t, i) ? strangerPlace : place[t][i - 1]) - place[t][i];
            for (Line line : tables.get(row[i])) {
                boolean all = true;
                for (Test test : line.tests()) {
                    int read = switch (test.reading()) {
                        case "gap" -> Math.min(gap, 99);
                        case "closing" -> Math.max(speed[t][i] - ahead, 0);
                        case "opening" -> Math.max(ahead - speed[t][i], 0);
                        case "speed" -> speed[t][i];
                        case "heard" -> heard[t];
                        default -> old[t];
                    };
                    all &= test.above() ? read > test.n() : read < test.n();
                }
                if (all) {
                    return bounded(line.wish(), i);
                }
            }
            return 0;
        }

        int gap(int behind, int i) {
            return place[behind + 1][i - 1] - place[behind + 1][i];
        }

        /** 100 times the tick and the lorry, or -1. */
        int firstTouch() {
            for (int t = 0; t < 32; t++) {
                for (int i = 1; i < n; i++) {
                    if (touch[t][i]) {
                        return 100 * t + i;
                    }
                }
            }
            return -1;
        }

        int dip(int i) {
            int most = 0;
            for (int t = 0; t <= 32; t++) {
                most = Math.max(most, speed[0][i] - speed[t][i]);
            }
            return most;
        }
    }

    private Drive asTold() {
        return new Drive(settings[0], settings[2], lost);
    }

    public int at(int lorry, int tick, int what) {
        if (!in(lorry, 0, row.length - 1) || !in(tick, 0, 31) || !in(what, 0, 5)) {
            return LEAST_INT;
        }
        Drive d = asTold();
        return switch (what) {
            case 0 -> d.speed[tick + 1][lorry];
            case 1 -> lorry == 0 ? -1 : d.gap(tick, lorry);
            case 2 -> d.place[tick + 1][lorry];
            case 3 -> d.wish[tick][lorry];
            case 4 -> lorry == 0 ? 0 : d.heard[tick];
            default -> lorry == 0 ? 99 : d.old[tick];
        };
    }

    public int touch(int what) {
        if (!in(what, 0, 1)) {
            return -3;
        }
        int first = asTold().firstTouch();
        return first == -1 ? -1 : what == 0 ? first / 100 : first % 100;
    }

    public int least(int lorry) {
        if (!in(lorry, 1, row.length - 1)) {
            return LEAST_INT;
        }
        Drive d = asTold();
        int least = Integer.MAX_VALUE;
        for (int t = 0; t < 32; t++) {
            least = Math.min(least, d.gap(t, lorry));
        }
        return least;
    }

    public int dip(int lorry) {
        return in(lorry, 0, row.length - 1) ? asTold().dip(lorry) : -2;
    }

    public int grows() {
        Drive d = asTold();
        int bits = 0;
        for (int i = 1; i < row.length; i++) {
            bits += d.dip(i) > d.dip(i - 1) ? 1 << i : 0;
        }
        return bits;
    }

    public int safe(int gap, int w, int l) {
        int worst = worst(gap, w, l);
        return worst == -3 ? -3 : worst == -1 ? 1 : 0;
    }

    public int need(int w, int l) {
        if (!in(w, 0, 4) || !in(l, 0, 2)) {
            return -3;
        }
        for (int gap = 1; gap <= 60; gap++) {
            if (safe(gap, w, l) == 1) {
                return gap;
            }
        }
        return -1;
    }

    public int worst(int gap, int w, int l) {
        if (!in(gap, 1, 99) || !in(w, 0, 4) || !in(l, 0, 2)) {
            return -3;
        }
        for (int wait = 0; wait <= w; wait++) {
            for (int loss = 0; loss < 256; loss++) {
                if (Integer.bitCount(loss) <= l && new Drive(gap, wait, loss).firstTouch() != -1) {
                    return 256 * wait + loss;
                }
            }
        }
        return -1;
    }

    public int sparing() {
        int bits = 0;
        for (int t = 0; t < 32 && asTold().firstTouch() != -1; t++) {
            if ((lost >>> t & 1) == 1 && new Drive(settings[0], settings[2], lost ^ 1 << t).firstTouch() == -1) {
                bits |= 1 << t;
            }
        }
        return bits;
    }

    public int bears(int from, int to) {
        if (!in(from, 0, 2000) || !in(to, 0, 2000) || to < from) {
            return -3;
        }
        Drive d = asTold();
        int most = 0;
        for (int t = 0; t < 32; t++) {
            int sum = 0;
            for (int i = 0; i < row.length; i++) {
                sum += in(d.place[t + 1][i], from, to) ? weight[row[i]] : 0;
            }
            most = Math.max(most, sum);
        }
        return most;
    }

    // ---- journeys, shares

    public int journey(int from, int to, int first, int last, int make) {
        if (!in(from, 0, 9) || !in(to, 0, 9) || to <= from || !in(make, 0, 3)) {
            return -2;
        }
        if (!in(first, 0, 23) || !in(last, 0, 23) || last < first || last - first > 5) {
            return -3;
        }
        if (journeys.size() == 5) {
            return -5;
        }
        journeys.add(new Journey(from, to, first, last, make));
        return journeys.size() - 1;
    }

    public int clear() {
        int had = journeys.size();
        journeys.clear();
        return had;
    }

    /** By rows: each place and hour, those that leave it then. */
    private int cost(int[] hours) {
        int all = 0;
        for (int place = 0; place < 9; place++) {
            for (int hour = 0; hour < 40; hour++) {
                int heaviest = -1;
                int sum = 0;
                for (int j = 0; j < journeys.size(); j++) {
                    Journey it = journeys.get(j);
                    if (!in(place, it.from(), it.to() - 1) || hours[j] + place - it.from() != hour) {
                        continue;
                    }
                    int w = weight[it.make()];
                    sum += Math.max(1, w - settings[3]);
                    heaviest = Math.max(heaviest, w);
                }
                if (heaviest != -1) {
                    all += sum - Math.max(1, heaviest - settings[3]) + heaviest;
                }
            }
        }
        for (int j = 0; j < journeys.size(); j++) {
            all += settings[4] * (hours[j] - journeys.get(j).first());
        }
        return all;
    }

    /** All together, then the hours. */
    private int[] best(int[] hours, int j) {
        if (j == journeys.size()) {
            int[] found = Arrays.copyOf(hours, hours.length + 1);
            found[hours.length] = cost(hours);
            return found;
        }
        int[] best = null;
        for (int hour = journeys.get(j).first(); hour <= journeys.get(j).last(); hour++) {
            hours[j] = hour;
            int[] found = best(hours, j + 1);
            if (best == null || found[hours.length] < best[hours.length]) {
                best = found;
            }
        }
        return best;
    }

    public int best(int what) {
        if (what < -1) {
            return -3;
        }
        int n = journeys.size();
        if (what >= n) {
            return -1;
        }
        int[] best = best(new int[n], 0);
        return what == -1 ? best[n] : best[what];
    }

    public int judge(int row) {
        int[] hours = new int[journeys.size()];
        for (int j = 0; j < hours.length; j++) {
            hours[j] = journeys.get(j).first() + (row >>> 3 * j & 7);
            if (hours[j] > journeys.get(j).last()) {
                return -3;
            }
        }
        return cost(hours);
    }

    public int spared(int person, int ahead, int v) {
        if (!in(person, 0, 5) || !in(ahead, 0, 5) || person == ahead) {
            return -2;
        }
        if (!in(v, 0, 99)) {
            return -3;
        }
        int was = spared[person][ahead];
        spared[person][ahead] = v;
        return was;
    }

    public int together(int set) {
        if (!in(set, 0, 63)) {
            return -3;
        }
        List<Integer> going = new ArrayList<>();
        for (int p = 0; p < 6; p++) {
            if ((set >> p & 1) == 1) {
                going.add(p);
            }
        }
        int sum = 0;
        for (int i = 1; i < going.size(); i++) {
            sum += spared[going.get(i)][going.get(i - 1)];
        }
        return sum;
    }

    public int share(int person, int n, int part) {
        if (!in(person, 0, 5) || in(n, 1, 6) && person >= n) {
            return -2;
        }
        if (!in(n, 1, 6) || !in(part, 0, 2)) {
            return -3;
        }
        int[] sums = new int[n];
        int orders = countOrders(n, sums);
        if (part == 2) {
            return coins(sums, orders, together((1 << n) - 1))[person];
        }
        int divisor = java.math.BigInteger.valueOf(sums[person]).gcd(java.math.BigInteger.valueOf(orders)).intValue();
        return part == 0 ? sums[person] / divisor : orders / divisor;
    }

    private int countOrders(int n, int[] sums) {
        List<int[]> all = new ArrayList<>();
        permute(new int[n], 0, 0, all);
        for (int[] order : all) {
            int came = 0;
            for (int p : order) {
                sums[p] += together(came | 1 << p) - together(came);
                came |= 1 << p;
            }
        }
        return all.size();
    }

    private void permute(int[] order, int at, int used, List<int[]> all) {
        if (at == order.length) {
            all.add(order.clone());
            return;
        }
        for (int p = 0; p < order.length; p++) {
            if ((used >> p & 1) == 0) {
                order[at] = p;
                permute(order, at + 1, used | 1 << p, all);
            }
        }
    }

    private static int[] coins(int[] sums, int orders, int total) {
        int n = sums.length;
        int[] coins = new int[n];
        int[] cut = new int[n];
        int rest = total;
        for (int p = 0; p < n; p++) {
            while ((coins[p] + 1) * orders <= sums[p]) {
                coins[p]++;
            }
            while (coins[p] * orders > sums[p]) {
                coins[p]--;
            }
            cut[p] = sums[p] - coins[p] * orders;
            rest -= coins[p];
        }
        for (; rest > 0; rest--) {
            int most = 0;
            for (int p = 1; p < n; p++) {
                most = cut[p] > cut[most] ? p : most;
            }
            coins[most]++;
            cut[most] = -1;
        }
        return coins;
    }

    // ---- clocks

    public int clock(int clock, int off) {
        if (!in(clock, 0, 5)) {
            return -2;
        }
        if (!in(off, 0, 60)) {
            return -3;
        }
        int was = this.off[clock];
        this.off[clock] = off;
        return was;
    }

    public int event(int clock, int time) {
        if (!in(clock, 0, 5)) {
            return -2;
        }
        if (!in(time, 0, 999)) {
            return -3;
        }
        if (events.size() == 12) {
            return -5;
        }
        events.add(new int[] {clock, time});
        return events.size() - 1;
    }

    public int after(int one, int two, int v) {
        if (!in(one, 0, events.size() - 1) || !in(two, 0, events.size() - 1) || one == two) {
            return -2;
        }
        if (!in(v, 0, 99)) {
            return -3;
        }
        if (afters.size() == 12) {
            return -5;
        }
        afters.add(new int[] {one, two, v});
        return afters.size();
    }

    /** The earliest clocks: each begins as early as it may and is moved on till all fits, or null. */
    private int[] earliest() {
        int[] x = new int[6];
        for (int c = 0; c < 6; c++) {
            x[c] = -off[c];
        }
        for (boolean moved = true; moved;) {
            moved = false;
            for (int[] a : afters) {
                int[] one = events.get(a[0]);
                int[] two = events.get(a[1]);
                int lacks = one[1] + x[one[0]] + a[2] - two[1] - x[two[0]];
                if (lacks > 0) {
                    x[two[0]] += lacks;
                    moved = true;
                    if (x[two[0]] > off[two[0]]) {
                        return null;
                    }
                }
            }
        }
        return x;
    }

    /** The latest clocks, the other way round. */
    private int[] latest() {
        int[] x = off.clone();
        for (boolean moved = true; moved;) {
            moved = false;
            for (int[] a : afters) {
                int[] one = events.get(a[0]);
                int[] two = events.get(a[1]);
                int lacks = one[1] + x[one[0]] + a[2] - two[1] - x[two[0]];
                if (lacks > 0) {
                    x[one[0]] -= lacks;
                    moved = true;
                    if (x[one[0]] < -off[one[0]]) {
                        return null;
                    }
                }
            }
        }
        return x;
    }

    public int agree() {
        return earliest() == null ? 0 : 1;
    }

    public int span(int event, int what) {
        if (!in(event, 0, events.size() - 1) || !in(what, 0, 1)) {
            return LEAST_INT;
        }
        int[] x = what == 0 ? earliest() : latest();
        return x == null ? LEAST_INT : events.get(event)[1] + x[events.get(event)[0]];
    }

    public int count(int what) {
        int[] counts = {row.length, pushes.size(), hills.size(), journeys.size(), events.size(), afters.size(),
            text.length()};
        return in(what, 0, 6) ? counts[what] : -3;
    }
}
