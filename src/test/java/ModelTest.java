import java.math.BigInteger;
import java.util.ArrayList;
import java.util.Arrays;
import java.util.List;
import java.util.Random;
import java.util.regex.Matcher;
import java.util.regex.Pattern;

/**
 * Random runs of calls, held against a slow model that is written another way: persons one by one,
 * whole fractions of big integers, tries of every number where the program reckons.
 */
public final class ModelTest {
    private static final int RUNS = 3000;
    private static final long NO = PostedAsks.NO;
    private static final int BAD = -1, STATE = -2, FULL = -3, NONE = -9;
    private static final BigInteger HUNDRED = BigInteger.valueOf(100);

    private final Random random;
    private final PostedAsks program = new PostedAsks();
    private final StringBuilder calls = new StringBuilder();

    private final List<List<Integer>> lands = new ArrayList<>();
    private final int[] rates = new int[8];
    private final List<Integer> text = new ArrayList<>();
    private List<String[]> finds = new ArrayList<>();
    private final List<Integer> weeks = new ArrayList<>();
    private final List<int[]> rows = new ArrayList<>();
    private final int[] prices = {1, 5, 90};
    private long trace = 0;

    private ModelTest(long seed) {
        random = new Random(seed);
        Arrays.fill(rates, 100);
        for (int i = 0; i < 4; i++) {
            lands.add(new ArrayList<>());
        }
    }

    public static void main(String[] args) {
        long checks = 0;
        for (int seed = 0; seed < RUNS; seed++) {
            ModelTest run = new ModelTest(seed);
            int length = 20 + run.random.nextInt(493);
            for (int i = 0; i < length; i++) {
                if (!run.step()) {
                    System.out.println("ModelTest: seed " + seed + ":\n" + run.calls);
                    System.exit(1);
                }
                checks++;
            }
        }
        System.out.println("ModelTest: " + checks + " calls in " + RUNS + " runs, 0 wrong");
    }

    private boolean due(String call, long got, long want) {
        calls.append(call).append(" answered ").append(got);
        if (got != want) {
            calls.append(", due is ").append(want);
        }
        calls.append('\n');
        return got == want;
    }

    /** Mostly low .. high, at times its edges or beyond them. */
    private int pick(int low, int high) {
        int way = random.nextInt(60);
        if (way == 0) {
            return low - 1;
        }
        if (way == 1) {
            return high + 1;
        }
        if (way == 2) {
            return random.nextInt();
        }
        if (way < 8) {
            return low;
        }
        if (way < 14) {
            return high;
        }
        return high < low ? low : low + random.nextInt(high - low + 1);
    }

    private static boolean in(int v, int low, int high) {
        return low <= v && v <= high;
    }

    private boolean step() {
        int way = random.nextInt(40);
        if (way < 8) {
            return stepLand();
        }
        if (way < 14) {
            return stepAsker();
        }
        if (way < 18) {
            return stepText();
        }
        if (way < 24) {
            return stepLots();
        }
        if (way < 32) {
            return stepWeeks();
        }
        return stepCoin();
    }

    // ---- lands

    private int having(int land, int bits) {
        int sum = 0;
        for (int person : lands.get(land)) {
            if ((person & bits) == bits) {
                sum++;
            }
        }
        return sum;
    }

    private int groupCount(int land, int group) {
        int sum = 0;
        for (int person : lands.get(land)) {
            if (person == group) {
                sum++;
            }
        }
        return sum;
    }

    private int back(int land, int bits) {
        int sum = 0;
        for (int group = 4; group < 8; group++) {
            if ((group & bits) == bits) {
                sum += groupCount(land, group) * rates[group] / 100;
            }
        }
        return sum;
    }

    private boolean stepLand() {
        int land = pick(0, 3);
        switch (random.nextInt(7)) {
            case 0: case 1: case 2: {
                int group = pick(0, 7);
                int v = random.nextInt(3) == 0 ? pick(0, 50) : pick(0, 12);
                return due("land(" + land + "," + group + "," + v + ")", program.land(land, group, v), land(land, group, v));
            }
            case 3: {
                int group = pick(0, 7);
                int v = pick(0, 100);
                int want = BAD;
                if (in(group, 0, 7) && in(v, 0, 100)) {
                    want = rates[group];
                    rates[group] = v;
                }
                return due("rate(" + group + "," + v + ")", program.rate(group, v), want);
            }
            case 4: {
                int what = pick(0, 5);
                int want = in(land, 0, 3) && in(what, 0, 5) ? having(land, new int[] {0, 1, 4, 5, 2, 3}[what]) : BAD;
                return due("people(" + land + "," + what + ")", program.people(land, what), want);
            }
            default: {
                int what = pick(0, 5);
                return due("posted(" + land + "," + what + ")", program.posted(land, what), posted(land, what));
            }
        }
    }

    private int land(int land, int group, int v) {
        if (!in(land, 0, 3) || !in(group, 0, 7) || !in(v, 0, 50)) {
            return BAD;
        }
        int before = groupCount(land, group);
        List<Integer> others = new ArrayList<>();
        for (int person : lands.get(land)) {
            if (person != group) {
                others.add(person);
            }
        }
        for (int i = 0; i < v; i++) {
            others.add(group);
        }
        if (others.size() > 50) {
            return FULL;
        }
        lands.set(land, others);
        return before;
    }

    /** {upper, lower}, or null. */
    private static BigInteger[] share(long upper, long lower) {
        return lower == 0 ? null : least(BigInteger.valueOf(upper), BigInteger.valueOf(lower));
    }

    private static BigInteger[] least(BigInteger upper, BigInteger lower) {
        BigInteger common = upper.gcd(lower);
        return new BigInteger[] {upper.divide(common), lower.divide(common)};
    }

    private static BigInteger[] sum(BigInteger[] a, BigInteger[] b) {
        return a == null || b == null ? null : least(a[0].multiply(b[1]).add(b[0].multiply(a[1])), a[1].multiply(b[1]));
    }

    private static BigInteger[] product(BigInteger[] a, BigInteger[] b) {
        return a == null || b == null ? null : least(a[0].multiply(b[0]), a[1].multiply(b[1]));
    }

    /** How far from one another, without sign. */
    private static BigInteger[] apart(BigInteger[] a, BigInteger[] b) {
        BigInteger[] off = sum(a, b == null ? null : new BigInteger[] {b[0].negate(), b[1]});
        return off == null ? null : new BigInteger[] {off[0].abs(), off[1]};
    }

    private static int compare(BigInteger[] a, BigInteger[] b) {
        return a[0].multiply(b[1]).compareTo(b[0].multiply(a[1]));
    }

    private BigInteger[] truth(int land) {
        return share(having(land, 1), having(land, 0));
    }

    private BigInteger[] lean(int land) {
        BigInteger[] truth = truth(land);
        return sum(share(back(land, 1), back(land, 0)), truth == null ? null : new BigInteger[] {truth[0].negate(), truth[1]});
    }

    private long posted(int land, int what) {
        if (!in(land, 0, 3) || !in(what, 0, 5)) {
            return NO;
        }
        if (what < 2) {
            return back(land, what);
        }
        BigInteger[] asked = what < 4 ? share(back(land, 1), back(land, 0)) : lean(land);
        return asked == null ? NO : asked[what % 2].longValueExact();
    }

    // ---- askers

    private boolean stepText() {
        switch (random.nextInt(4)) {
            case 0: {
                int n = pick(1, 8);
                long v = random.nextLong();
                return due("type(" + v + "," + n + ")", program.type(v, n), type(v, n)) && (random.nextInt(4) > 0 || forget());
            }
            case 1:
                return due("habit()", program.habit(), habit()) && (random.nextInt(3) > 0 || forget());
            default:
                return typeHabit();
        }
    }

    private boolean forget() {
        int want = text.size();
        text.clear();
        return due("clear()", program.clear(), want);
    }

    private int type(long v, int n) {
        if (!in(n, 1, 8)) {
            return BAD;
        }
        if (text.size() + n > 300) {
            return FULL;
        }
        byte[] eight = java.nio.ByteBuffer.allocate(8).putLong(v).array();
        for (int i = 8 - n; i < 8; i++) {
            text.add(eight[i] & 255);
        }
        return text.size();
    }

    private String randomPattern() {
        return "" + "rpx".charAt(random.nextInt(3)) + "lux".charAt(random.nextInt(3)) + "ynx".charAt(random.nextInt(3));
    }

    private String blanks() {
        return "    ".substring(0, random.nextInt(3) * random.nextInt(2));
    }

    /** A text of finds, at times with something amiss, typed and read. */
    private boolean typeHabit() {
        if (!forget()) {
            return false;
        }
        StringBuilder made = new StringBuilder(blanks());
        int many = random.nextInt(random.nextInt(3) == 0 ? 15 : 5);
        for (int i = 0; i < many; i++) {
            boolean all = random.nextBoolean();
            made.append(all ? "all " : "find ").append(blanks()).append(randomPattern());
            if (!all) {
                int n = random.nextInt(12) == 0 ? random.nextInt(120) : 1 + random.nextInt(random.nextBoolean() ? 50 : 6);
                made.append(random.nextInt(8) == 0 ? "" : " ").append(blanks()).append(n);
            }
            made.append(blanks()).append(';').append(blanks());
        }
        if (random.nextInt(3) == 0 && made.length() > 0) {
            spoil(made);
        }
        for (int at = 0; at < made.length(); ) {
            int n = Math.min(1 + random.nextInt(8), made.length() - at);
            long v = random.nextLong();
            for (int i = 0; i < n; i++) {
                v = v << 8 | made.charAt(at + i);
            }
            at += n;
            if (!due("type(" + v + "," + n + ")", program.type(v, n), type(v, n))) {
                return false;
            }
        }
        return due("habit() of '" + made + "'", program.habit(), habit());
    }

    private void spoil(StringBuilder made) {
        int at = random.nextInt(made.length());
        switch (random.nextInt(4)) {
            case 0:
                made.setLength(at);
                break;
            case 1:
                made.deleteCharAt(at);
                break;
            case 2:
                made.insert(at, new String[] {";", " ", "0", "7", "find ", "all ", "x", "rly ", "#", "A"}[random.nextInt(10)]);
                break;
            default:
                made.setCharAt(at, (char) random.nextInt(256));
        }
    }

    private int habit() {
        StringBuilder signs = new StringBuilder();
        for (int sign : text) {
            signs.append((char) sign);
        }
        List<String[]> read = new ArrayList<>();
        Matcher find = Pattern.compile("[a-z]+|[0-9]+|[^a-z0-9 ]").matcher(signs);
        String state = "start";
        String[] now = null;
        while (find.find()) {
            String word = find.group();
            int fault = -10 - find.start();
            if (state.equals("start")) {
                if (!word.matches("find|all") || read.size() == 12) {
                    return fault;
                }
                now = new String[] {"", "50"};
                state = word;
            } else if (state.equals("find") || state.equals("all")) {
                if (!word.matches("[rpx][lux][ynx]")) {
                    return fault;
                }
                now[0] = word;
                state = state.equals("find") ? "number" : "end";
            } else if (state.equals("number")) {
                if (!word.matches("[1-9]|[1-4][0-9]|50")) {
                    return fault;
                }
                now[1] = word;
                state = "end";
            } else {
                if (!word.equals(";")) {
                    return fault;
                }
                read.add(now);
                state = "start";
            }
        }
        if (!state.equals("start")) {
            return -10 - signs.length();
        }
        finds = read;
        text.clear();
        return finds.size();
    }

    private static boolean fits(int person, String pattern) {
        boolean means = pattern.charAt(0) == 'x' || (pattern.charAt(0) == 'r') == ((person & 2) != 0);
        boolean lists = pattern.charAt(1) == 'x' || (pattern.charAt(1) == 'l') == ((person & 4) != 0);
        boolean choice = pattern.charAt(2) == 'x' || (pattern.charAt(2) == 'y') == ((person & 1) != 0);
        return means && lists && choice;
    }

    /** Person by person, those met. */
    private List<Integer> met(int land, int poor, int rich) {
        List<Integer> there = new ArrayList<>(lands.get(land));
        there.sort(null);
        List<Integer> met = new ArrayList<>();
        int[] wanted = {poor, rich};
        List<String[]> steps = new ArrayList<>(finds);
        steps.add(new String[] {"xxx", "50"});
        for (String[] find : steps) {
            int left = Integer.parseInt(find[1]);
            for (int i = 0; i < there.size(); ) {
                int person = there.get(i);
                int means = (person & 2) / 2;
                if (fits(person, find[0]) && left > 0 && wanted[means] > 0) {
                    met.add(there.remove(i));
                    left--;
                    wanted[means]--;
                } else {
                    i++;
                }
            }
        }
        return met;
    }

    private static int many(List<Integer> persons, int matters, int wanted) {
        int sum = 0;
        for (int person : persons) {
            if ((person & matters) == wanted) {
                sum++;
            }
        }
        return sum;
    }

    private BigInteger[] weighed(int land, List<Integer> met) {
        List<Integer> there = lands.get(land);
        if (there.isEmpty()) {
            return null;
        }
        BigInteger[] all = share(0, 1);
        for (int means = 0; means <= 2; means += 2) {
            int have = many(there, 2, means);
            if (have > 0) {
                all = sum(all, product(share(many(met, 3, means + 1), many(met, 2, means)), share(have, there.size())));
            }
        }
        return all;
    }

    private boolean stepAsker() {
        int land = pick(0, 3);
        int poor = random.nextBoolean() ? pick(0, 50) : pick(0, 9);
        int rich = random.nextBoolean() ? pick(0, 50) : pick(0, 9);
        String asking = "(" + land + "," + poor + "," + rich;
        boolean right = in(land, 0, 3) && in(poor, 0, 50) && in(rich, 0, 50);
        List<Integer> met = right ? met(land, poor, rich) : null;
        switch (random.nextInt(3)) {
            case 0: {
                int what = pick(0, 8);
                int want = !right || !in(what, 0, 8) ? BAD : what == 8 ? met.size() : many(met, 7, what);
                return due("found" + asking + "," + what + ")", program.found(land, poor, rich, what), want);
            }
            case 1: {
                int what = pick(0, 1);
                BigInteger[] share = right && in(what, 0, 1) ? weighed(land, met) : null;
                long want = share == null ? NO : share[what].longValueExact();
                return due("weighed" + asking + "," + what + ")", program.weighed(land, poor, rich, what), want);
            }
            default: {
                int want = NONE;
                if (right && weighed(land, met) != null && !met.isEmpty()) {
                    BigInteger[] plain = share(many(met, 1, 1), met.size());
                    want = compare(apart(plain, truth(land)), apart(weighed(land, met), truth(land)));
                }
                return due("mends" + asking + ")", program.mends(land, poor, rich), want);
            }
        }
    }

    // ---- lots

    private static BigInteger choose(int n, int k) {
        if (k < 0 || k > n) {
            return BigInteger.ZERO;
        }
        BigInteger product = BigInteger.ONE;
        for (int i = 0; i < k; i++) {
            product = product.multiply(BigInteger.valueOf(n - i)).divide(BigInteger.valueOf(i + 1));
        }
        return product;
    }

    private static BigInteger just(int n, int c, int k, int y) {
        return choose(c, y).multiply(choose(n - c, k - y));
    }

    private static BigInteger ways(int n, int c, int k, int d) {
        BigInteger sum = BigInteger.ZERO;
        for (int y = 0; y <= k; y++) {
            if (compare(apart(share(y, k), share(c, n)), share(d, 100)) <= 0) {
                sum = sum.add(just(n, c, k, y));
            }
        }
        return sum;
    }

    private static boolean enough(int n, int c, int k, int d, int h) {
        return ways(n, c, k, d).multiply(HUNDRED).compareTo(choose(n, k).multiply(BigInteger.valueOf(h))) >= 0;
    }

    private boolean stepLots() {
        int n = pick(1, 50);
        int c = pick(0, in(n, 0, 99) ? n : 50);
        int k = pick(1, in(n, 1, 99) ? n : 50);
        int d = random.nextBoolean() ? pick(0, 100) : pick(0, 25);
        switch (random.nextInt(4)) {
            case 0: {
                int what = pick(0, 1);
                long want = NO;
                if (in(n, 1, 50) && in(c, 0, n) && in(k, 1, n) && in(d, 0, 100) && in(what, 0, 1)) {
                    want = (what == 0 ? ways(n, c, k, d) : choose(n, k)).longValueExact();
                }
                return due("ways(" + n + "," + c + "," + k + "," + d + "," + what + ")", program.ways(n, c, k, d, what), want);
            }
            case 1:
                return stepFew(n, c, d, pick(1, 100));
            case 2:
                return stepMay(n, k, pick(0, in(k, 0, 99) ? k : 50), pick(0, 2));
            default:
                return stepShadow(pick(0, 3), d, pick(0, 1));
        }
    }

    private boolean stepFew(int n, int c, int d, int h) {
        int want = BAD;
        if (in(n, 1, 50) && in(c, 0, n) && in(d, 0, 100) && in(h, 1, 100)) {
            want = 1;
            while (!enough(n, c, want, d, h)) {
                want++;
            }
        }
        return due("few(" + n + "," + c + "," + d + "," + h + ")", program.few(n, c, d, h), want);
    }

    private boolean stepMay(int n, int k, int y, int what) {
        int want = BAD;
        if (in(n, 1, 50) && in(k, 1, n) && in(y, 0, k) && in(what, 0, 2)) {
            BigInteger most = BigInteger.ZERO;
            for (int c = 0; c <= n; c++) {
                most = most.max(just(n, c, k, y));
            }
            List<Integer> likeliest = new ArrayList<>();
            List<Integer> likely = new ArrayList<>();
            for (int c = 0; c <= n; c++) {
                if (just(n, c, k, y).equals(most)) {
                    likeliest.add(c);
                }
                if (just(n, c, k, y).multiply(BigInteger.TEN).compareTo(most) >= 0) {
                    likely.add(c);
                }
            }
            want = what == 0 ? likeliest.get(0) : likely.get(what == 1 ? 0 : likely.size() - 1);
        }
        return due("may(" + n + "," + k + "," + y + "," + what + ")", program.may(n, k, y, what), want);
    }

    private boolean stepShadow(int land, int d, int what) {
        int back = in(land, 0, 3) ? back(land, 0) : 0;
        int k = pick(1, back);
        long want = NO;
        if (in(k, 1, back) && in(d, 0, 100) && in(what, 0, 1)) {
            want = (what == 0 ? ways(back, back(land, 1), k, d) : choose(back, k)).longValueExact();
        }
        return due("shadow(" + land + "," + k + "," + d + "," + what + ")", program.shadow(land, k, d, what), want);
    }

    // ---- weeks, houses

    private Integer turn(int w, int sign) {
        Integer most = null;
        for (int i = 0; i < weeks.size(); i++) {
            for (int j = i + 1; j < weeks.size(); j++) {
                if (j - i == w) {
                    int more = sign * (weeks.get(j) - weeks.get(i));
                    most = most == null ? Math.max(0, more) : Math.max(most, more);
                }
            }
        }
        return most;
    }

    private int stops() {
        if (weeks.isEmpty()) {
            return 0;
        }
        int last = weeks.get(weeks.size() - 1);
        for (int w = 1; ; w++) {
            Integer change = turn(w, last >= 500 ? -1 : 1);
            boolean stays = change != null && (last >= 500 ? last - change >= 500 : last + change < 500);
            if (!stays) {
                return w - 1;
            }
        }
    }

    private int held(int more) {
        int sum = 0;
        for (int[] row : rows) {
            if (in(row[2], row[0] - row[1] - more, row[0] + row[1] + more)) {
                sum++;
            }
        }
        return sum;
    }

    private boolean stepWeeks() {
        switch (random.nextInt(8)) {
            case 0: case 1: {
                int v = random.nextBoolean() ? pick(0, 1000) : pick(480, 560);
                int want = BAD;
                if (in(v, 0, 1000)) {
                    want = FULL;
                    if (weeks.size() < 60) {
                        weeks.add(v);
                        want = weeks.size();
                    }
                }
                return due("week(" + v + ")", program.week(v), want);
            }
            case 2: case 3: {
                int w = random.nextBoolean() ? pick(1, 60) : pick(1, 9);
                int what = pick(0, 1);
                int want = BAD;
                if (in(w, 1, 60) && in(what, 0, 1)) {
                    Integer change = turn(w, what == 0 ? 1 : -1);
                    want = change == null ? NONE : change;
                }
                return due("turn(" + w + "," + what + ")", program.turn(w, what), want);
            }
            case 4:
                return due("stops()", program.stops(), stops());
            case 5:
                return stepHouse(pick(0, 1000), random.nextBoolean() ? pick(0, 1000) : pick(0, 50));
            case 6: {
                int more = pick(0, 1000);
                return due("held(" + more + ")", program.held(more), in(more, 0, 1000) ? held(more) : BAD);
            }
            default: {
                int h = pick(0, 24);
                int want = in(h, 0, 24) ? 0 : BAD;
                while (want >= 0 && held(want) < h) {
                    want = want > 1000 ? NONE : want + 1;
                }
                return due("wider(" + h + ")", program.wider(h), want);
            }
        }
    }

    private boolean stepHouse(int told, int span) {
        int counted = random.nextBoolean() ? pick(0, 1000) : told + random.nextInt(60) - 30;
        int want = BAD;
        if (in(told, 0, 1000) && in(span, 0, 1000) && in(counted, 0, 1000)) {
            want = FULL;
            if (rows.size() < 24) {
                rows.add(new int[] {told, span, counted});
                want = rows.size();
            }
        }
        return due("house(" + told + "," + span + "," + counted + ")", program.house(told, span, counted), want);
    }

    // ---- coin

    private int mistake(int land, int k) {
        int d = 0;
        if (k > 0) {
            while (!enough(having(land, 0), having(land, 1), k, d, prices[2])) {
                d++;
            }
            return d;
        }
        BigInteger[] lean = lean(land);
        if (lean == null) {
            return 101;
        }
        while (compare(new BigInteger[] {lean[0].abs(), lean[1]}, share(d, 100)) > 0) {
            d++;
        }
        return d;
    }

    private int best(int coin, int what) {
        int fewest = 51;
        for (List<Integer> land : lands) {
            fewest = land.isEmpty() ? fewest : Math.min(fewest, land.size());
        }
        if (fewest == 51) {
            return STATE;
        }
        int choice = NONE;
        int least = 1000;
        for (int k = fewest; k >= 0; k--) {
            int greatest = 0;
            boolean payable = true;
            for (int land = 0; land < 4; land++) {
                if (!lands.get(land).isEmpty()) {
                    payable &= (k > 0 ? prices[1] * k : prices[0] * having(land, 4)) <= coin;
                    greatest = payable ? Math.max(greatest, mistake(land, k)) : 0;
                }
            }
            if (payable && greatest <= least) {
                choice = k;
                least = greatest;
            }
        }
        return choice == NONE || what == 0 ? choice : least;
    }

    private static final int[] ABOVE = {-1, 0, 0, 0, 3, 0, 1};

    private int cost(int kind, int land) {
        trace += Math.round(Math.pow(10, kind));
        int up = kind == 0 ? 2 : cost(ABOVE[kind], land);
        int[] due = {up, up + prices[0] * having(land, 4), up + finds.size(), up + prices[1] * having(land, 0),
            (int) Math.floor(1.5 * up), up + weeks.size(), (int) Math.ceil(up / 10.0)};
        return due[kind];
    }

    private boolean stepCoin() {
        int land = pick(0, 3);
        switch (random.nextInt(24)) {
            case 0:
                return stepBegin();
            case 1: case 2: case 3: case 4:
                return due("trace()", program.trace(), trace);
            case 5: case 6: case 7: case 8: {
                int what = pick(0, 4);
                int everybody = having(0, 0) + having(1, 0) + having(2, 0) + having(3, 0);
                int[] counts = {everybody, finds.size(), weeks.size(), rows.size(), text.size()};
                return due("count(" + what + ")", program.count(what), in(what, 0, 4) ? counts[what] : BAD);
            }
            case 9: case 10: case 11: {
                int what = pick(0, 2);
                int v = random.nextBoolean() ? pick(0, 100) : pick(0, 9);
                int want = BAD;
                if (in(what, 0, 2) && (what == 2 ? in(v, 1, 100) : in(v, 0, 99))) {
                    want = prices[what];
                    prices[what] = v;
                }
                return due("price(" + what + "," + v + ")", program.price(what, v), want);
            }
            case 12: case 13: case 14: case 15: {
                int persons = in(land, 0, 3) ? having(land, 0) : 0;
                int k = random.nextBoolean() ? pick(0, persons) : 0;
                int want = !in(land, 0, 3) || !in(k, 0, persons) ? BAD : persons == 0 ? STATE : mistake(land, k);
                return due("error(" + land + "," + k + ")", program.error(land, k), want);
            }
            case 16: {
                int coin = random.nextInt(6) == 0 ? pick(0, 9999) : pick(0, 90);
                int what = pick(0, 1);
                int want = in(coin, 0, 9999) && in(what, 0, 1) ? best(coin, what) : BAD;
                return due("best(" + coin + "," + what + ")", program.best(coin, what), want);
            }
            default: {
                int kind = pick(0, 6);
                int want = in(kind, 0, 6) && in(land, 0, 3) ? cost(kind, land) : BAD;
                return due("cost(" + kind + "," + land + ")", program.cost(kind, land), want);
            }
        }
    }

    private boolean stepBegin() {
        int want = 0;
        for (List<Integer> land : lands) {
            want += land.size();
            land.clear();
        }
        weeks.clear();
        rows.clear();
        return due("begin()", program.begin(), want);
    }
}
