import java.util.Arrays;

/** Lands and their lists, cards, askers, lots, weeks, houses and coin, as ../shared/DOC.md tells them. */
public final class PostedAsks {
    public static final int BAD = -1, STATE = -2, FULL = -3, NONE = -9;
    public static final long NO = -1000000000000000000L;

    private static final int LANDS = 4;
    private static final int GROUPS = 8;
    private static final int PERSONS = 50;
    private static final int HUNDRED = 100;
    private static final int THOUSAND = 1000;
    private static final int TEXT_BYTES = 300;
    private static final int FINDS = 12;
    private static final int WEEKS = 60;
    private static final int ROWS = 24;
    private static final int COIN = 9999;

    private static final int ANY = 0, YES = 1, RICH = 2, LISTED = 4;
    private static final int CARD = 0, DRAWN = 1, SURE = 2;
    private static final int ERROR_OF_NO_CARDS = 101;

    /** The bits that those have for whom people() is asked, by its number. */
    private static final int[] PEOPLE = {ANY, YES, LISTED, LISTED | YES, RICH, RICH | YES};

    private final Lands lands = new Lands();
    private final Text text = new Text();
    private final Habit habit = new Habit();
    private final Asker asker = new Asker();
    private final Lots lots = new Lots();
    private final Weeks weeks = new Weeks();
    private final House house = new House();
    private final Fraction fraction = new Fraction();
    private final int[] prices = {1, 5, 90};
    private long trace = 0L;

    public PostedAsks() {
    }

    // ---- lands

    public int land(int land, int group, int v) {
        if (!isLand(land) || !isGroup(group) || !within(v, 0, PERSONS)) {
            return BAD;
        }
        return lands.settle(land, group, v);
    }

    public int rate(int group, int v) {
        if (!isGroup(group) || !within(v, 0, HUNDRED)) {
            return BAD;
        }
        return lands.changeRate(group, v);
    }

    public int people(int land, int what) {
        if (!isLand(land) || !within(what, 0, PEOPLE.length - 1)) {
            return BAD;
        }
        return lands.having(land, PEOPLE[what]);
    }

    public long posted(int land, int what) {
        if (!isLand(land) || !within(what, 0, 5)) {
            return NO;
        }
        if (what == 0) {
            return lands.back(land, ANY);
        }
        if (what == 1) {
            return lands.back(land, YES);
        }
        if (what <= 3) {
            shareBack(land);
            return fraction.part(what - 2);
        }
        lean(land);
        return fraction.part(what - 4);
    }

    // ---- askers

    public int type(long v, int n) {
        if (!within(n, 1, 8)) {
            return BAD;
        }
        return text.append(v, n);
    }

    public int clear() {
        return text.empty();
    }

    public int habit() {
        return habit.learn(text);
    }

    public int found(int land, int poor, int rich, int what) {
        if (!isAsking(land, poor, rich) || !within(what, 0, GROUPS)) {
            return BAD;
        }
        asker.ask(lands, land, habit, poor, rich);
        return what == GROUPS ? asker.met(ANY, ANY) : asker.metOfGroup(what);
    }

    public long weighed(int land, int poor, int rich, int what) {
        if (!isAsking(land, poor, rich) || !within(what, 0, 1)) {
            return NO;
        }
        asker.ask(lands, land, habit, poor, rich);
        weigh(land);
        return fraction.part(what);
    }

    public int mends(int land, int poor, int rich) {
        if (!isAsking(land, poor, rich)) {
            return NONE;
        }
        asker.ask(lands, land, habit, poor, rich);
        weigh(land);
        long met = asker.met(ANY, ANY);
        if (!fraction.isThere() || met == 0) {
            return NONE;
        }
        long persons = lands.having(land, ANY);
        long yes = lands.having(land, YES);
        // Both distances from TRUTH are brought over the same lower number, so the upper ones decide.
        long weighedOff = Math.abs(fraction.upper * persons - yes * fraction.lower) * met;
        long plainOff = Math.abs(asker.met(YES, YES) * persons - yes * met) * fraction.lower;
        if (weighedOff == plainOff) {
            return 0;
        }
        return weighedOff < plainOff ? 1 : -1;
    }

    // ---- lots

    public long ways(int n, int c, int k, int d, int what) {
        if (!isLot(n, c) || !within(k, 1, n) || !within(d, 0, HUNDRED) || !within(what, 0, 1)) {
            return NO;
        }
        return what == 0 ? lots.near(n, c, k, d) : lots.choose(n, k);
    }

    public int few(int n, int c, int d, int h) {
        if (!isLot(n, c) || !within(d, 0, HUNDRED) || !within(h, 1, HUNDRED)) {
            return BAD;
        }
        return lots.fewest(n, c, d, h);
    }

    public int may(int n, int k, int y, int what) {
        if (!within(n, 1, PERSONS) || !within(k, 1, n) || !within(y, 0, k) || !within(what, 0, 2)) {
            return BAD;
        }
        int likeliest = lots.likeliest(n, k, y);
        if (what == 0) {
            return likeliest;
        }
        long mostWays = lots.just(n, likeliest, k, y);
        return what == 1 ? lots.leastTruth(n, k, y, mostWays) : lots.mostTruth(n, k, y, mostWays);
    }

    public long shadow(int land, int k, int d, int what) {
        if (!isLand(land)) {
            return NO;
        }
        int back = lands.back(land, ANY);
        if (!within(k, 1, back) || !within(d, 0, HUNDRED) || !within(what, 0, 1)) {
            return NO;
        }
        return what == 0 ? lots.near(back, lands.back(land, YES), k, d) : lots.choose(back, k);
    }

    // ---- weeks, houses

    public int week(int v) {
        if (!within(v, 0, THOUSAND)) {
            return BAD;
        }
        return weeks.append(v);
    }

    public int turn(int w, int what) {
        if (!within(w, 1, WEEKS) || !within(what, 0, 1)) {
            return BAD;
        }
        return what == 0 ? weeks.rise(w) : weeks.fall(w);
    }

    public int stops() {
        return weeks.sure();
    }

    public int house(int told, int span, int counted) {
        if (!within(told, 0, THOUSAND) || !within(span, 0, THOUSAND) || !within(counted, 0, THOUSAND)) {
            return BAD;
        }
        return house.append(Math.max(0, Math.abs(told - counted) - span));
    }

    public int held(int more) {
        if (!within(more, 0, THOUSAND)) {
            return BAD;
        }
        return house.holding(more);
    }

    public int wider(int h) {
        if (!within(h, 0, ROWS)) {
            return BAD;
        }
        return house.needFor(h);
    }

    // ---- coin

    public int price(int what, int v) {
        if (!within(what, CARD, SURE)) {
            return BAD;
        }
        boolean fits = what == SURE ? within(v, 1, HUNDRED) : within(v, 0, HUNDRED - 1);
        if (!fits) {
            return BAD;
        }
        int before = prices[what];
        prices[what] = v;
        return before;
    }

    public int error(int land, int k) {
        if (!isLand(land) || !within(k, 0, lands.having(land, ANY))) {
            return BAD;
        }
        return lands.having(land, ANY) == 0 ? STATE : mistake(land, k);
    }

    public int best(int coin, int what) {
        if (!within(coin, 0, COIN) || !within(what, 0, 1)) {
            return BAD;
        }
        int smallest = lands.smallest();
        if (smallest == 0) {
            return STATE;
        }
        int choice = NONE;
        int least = NONE;
        // 0 drawn stands for POSTED, as in the answer, so the order of the tries settles equal errors.
        for (int k = 0; k <= smallest; k++) {
            int greatest = isPayable(k, coin) ? greatestMistake(k) : NONE;
            if (greatest != NONE && (choice == NONE || greatest < least)) {
                choice = k;
                least = greatest;
            }
        }
        return what == 0 ? choice : least;
    }

    public int cost(int kind, int land) {
        if (!isLand(land)) {
            return BAD;
        }
        switch (kind) {
            case 0: return askingCost();
            case 1: return postedCost(land);
            case 2: return quotaCost();
            case 3: return lotCost(land);
            case 4: return calledCost(land);
            case 5: return lateCost();
            case 6: return shadowCost(land);
            default: return BAD;
        }
    }

    public int begin() {
        int before = lands.everybody();
        lands.empty();
        weeks.empty();
        house.empty();
        return before;
    }

    public int count(int what) {
        switch (what) {
            case 0: return lands.everybody();
            case 1: return habit.finds;
            case 2: return weeks.many;
            case 3: return house.rows;
            case 4: return text.length;
            default: return BAD;
        }
    }

    public long trace() {
        return trace;
    }

    // ---- what numbers may be

    private static boolean within(int v, int low, int high) {
        return v >= low && v <= high;
    }

    private static boolean isLand(int land) {
        return within(land, 0, LANDS - 1);
    }

    private static boolean isGroup(int group) {
        return within(group, 0, GROUPS - 1);
    }

    private static boolean isAsking(int land, int poor, int rich) {
        return isLand(land) && within(poor, 0, PERSONS) && within(rich, 0, PERSONS);
    }

    private static boolean isLot(int n, int c) {
        return within(n, 1, PERSONS) && within(c, 0, n);
    }

    // ---- shares, left in the one fraction

    private void shareBack(int land) {
        fraction.become(lands.back(land, YES), lands.back(land, ANY));
    }

    private void lean(int land) {
        shareBack(land);
        fraction.add(-lands.having(land, YES), lands.having(land, ANY));
    }

    /** WEIGHED of those whom the asker has met; a land of nobody has no share. */
    private void weigh(int land) {
        fraction.become(0, lands.having(land, ANY));
        weighMeans(land, 0);
        weighMeans(land, RICH);
    }

    private void weighMeans(int land, int means) {
        long have = lands.matching(land, RICH, means);
        if (have > 0) {
            long yes = asker.met(RICH | YES, means | YES);
            long met = asker.met(RICH, means);
            fraction.add(yes * have, met * lands.having(land, ANY));
        }
    }

    // ---- mistakes and what they cost

    /** ERROR of a land that has persons: of k drawn, or, where k is 0, of POSTED. */
    private int mistake(int land, int k) {
        if (k > 0) {
            return lots.leastDistance(lands.having(land, ANY), lands.having(land, YES), k, prices[SURE]);
        }
        lean(land);
        return fraction.isThere() ? fraction.hundredthsUp() : ERROR_OF_NO_CARDS;
    }

    private int greatestMistake(int k) {
        int greatest = 0;
        for (int land = 0; land < LANDS; land++) {
            if (lands.having(land, ANY) > 0) {
                greatest = Math.max(greatest, mistake(land, k));
            }
        }
        return greatest;
    }

    /** The coin is for each land, not for all of them together. */
    private boolean isPayable(int k, int coin) {
        if (k > 0) {
            return k * prices[DRAWN] <= coin;
        }
        for (int land = 0; land < LANDS; land++) {
            if (cards(land) > coin) {
                return false;
            }
        }
        return true;
    }

    private int cards(int land) {
        return prices[CARD] * lands.having(land, LISTED);
    }

    // ---- bodies of kinds: each asks the kind above it once

    private int askingCost() {
        trace += 1L;
        return 2;
    }

    private int postedCost(int land) {
        trace += 10L;
        return askingCost() + cards(land);
    }

    private int quotaCost() {
        trace += 100L;
        return askingCost() + habit.finds;
    }

    private int lotCost(int land) {
        trace += 1000L;
        return askingCost() + prices[DRAWN] * lands.having(land, ANY);
    }

    private int calledCost(int land) {
        trace += 10000L;
        int up = lotCost(land);
        return up + up / 2;
    }

    private int lateCost() {
        trace += 100000L;
        return askingCost() + weeks.many;
    }

    private int shadowCost(int land) {
        trace += 1000000L;
        return (postedCost(land) + 9) / 10;
    }

    /** Who lives where, and how many of whom send cards back. */
    private static final class Lands {
        private final int[] counts = new int[LANDS * GROUPS];
        private final int[] rates = new int[GROUPS];

        Lands() {
            Arrays.fill(rates, HUNDRED);
        }

        int settle(int land, int group, int v) {
            int before = of(land, group);
            if (having(land, ANY) - before + v > PERSONS) {
                return FULL;
            }
            counts[land * GROUPS + group] = v;
            return before;
        }

        int changeRate(int group, int v) {
            int before = rates[group];
            rates[group] = v;
            return before;
        }

        int of(int land, int group) {
            return counts[land * GROUPS + group];
        }

        /** Those of a land whose bits are the wanted ones where it matters. */
        int matching(int land, int matters, int wanted) {
            int sum = 0;
            for (int group = 0; group < GROUPS; group++) {
                if ((group & matters) == wanted) {
                    sum += of(land, group);
                }
            }
            return sum;
        }

        int having(int land, int bits) {
            return matching(land, bits, bits);
        }

        /** Those on lists, with these bits too, whose cards came back. */
        int back(int land, int bits) {
            int sum = 0;
            for (int group = LISTED; group < GROUPS; group++) {
                if ((group & bits) == bits) {
                    sum += of(land, group) * rates[group] / HUNDRED;
                }
            }
            return sum;
        }

        int everybody() {
            int sum = 0;
            for (int land = 0; land < LANDS; land++) {
                sum += having(land, ANY);
            }
            return sum;
        }

        /** How many the smallest land has of those that have persons; 0 where none has. */
        int smallest() {
            int least = 0;
            for (int land = 0; land < LANDS; land++) {
                int persons = having(land, ANY);
                if (persons > 0 && (least == 0 || persons < least)) {
                    least = persons;
                }
            }
            return least;
        }

        void empty() {
            Arrays.fill(counts, 0);
        }
    }

    /** A share in least terms. A lower number of 0 says that there is none, and stays through additions. */
    private static final class Fraction {
        private long upper = 0L;
        private long lower = 0L;

        void become(long up, long low) {
            long divisor = commonDivisor(Math.abs(up), low);
            if (low < 1 || divisor < 1) {
                upper = 0;
                lower = 0;
                return;
            }
            upper = up / divisor;
            lower = low / divisor;
        }

        void add(long up, long low) {
            become(upper * low + up * lower, lower * low);
        }

        boolean isThere() {
            return lower > 0;
        }

        long part(int what) {
            if (!isThere()) {
                return NO;
            }
            return what == 0 ? upper : lower;
        }

        int hundredthsUp() {
            return isThere() ? (int) ((Math.abs(upper) * HUNDRED + lower - 1) / lower) : 0;
        }

        private static long commonDivisor(long one, long other) {
            long a = one;
            long b = other;
            // A hundred steps are more than any two longs need.
            for (int step = 0; step < 100 && b != 0; step++) {
                long rest = a % b;
                a = b;
                b = rest;
            }
            return a;
        }
    }

    private enum Token { FIND, ALL, PATTERN, NUMBER, SEMICOLON, END, WRONG }

    /** The bytes that were typed, and the token at which their reader stands. */
    private static final class Text {
        private final int[] bytes = new int[TEXT_BYTES];
        private int length = 0;
        private Token token = Token.END;
        private int place = 0;
        private int end = 0;
        private int value = 0;

        int append(long v, int n) {
            if (length + n > TEXT_BYTES) {
                return FULL;
            }
            for (int left = n - 1; left >= 0; left--) {
                bytes[length] = (int) (v >>> (8 * left)) & 255;
                length++;
            }
            return length;
        }

        int empty() {
            int before = length;
            length = 0;
            return before;
        }

        void rewind() {
            end = 0;
        }

        /** Goes to the next token; behind the last one stands END, at the text's length. */
        void advance() {
            place = end;
            while (place < length && bytes[place] == ' ') {
                place++;
            }
            end = place;
            value = 0;
            if (place >= length) {
                token = Token.END;
            } else if (isLetter(bytes[place])) {
                readWord();
            } else if (isDigit(bytes[place])) {
                readNumber();
            } else {
                token = bytes[place] == ';' ? Token.SEMICOLON : Token.WRONG;
                end++;
            }
        }

        private void readWord() {
            while (end < length && isLetter(bytes[end])) {
                end++;
            }
            if (spells("find")) {
                token = Token.FIND;
            } else if (spells("all")) {
                token = Token.ALL;
            } else {
                value = pattern();
                token = value < 0 ? Token.WRONG : Token.PATTERN;
            }
        }

        private void readNumber() {
            boolean zeroAhead = bytes[place] == '0';
            while (end < length && isDigit(bytes[end])) {
                // Held at 100, which is wrong already, so that no row of digits runs over.
                value = Math.min(100, value * 10 + bytes[end] - '0');
                end++;
            }
            boolean wrong = value > 99 || zeroAhead && end - place > 1;
            token = wrong ? Token.WRONG : Token.NUMBER;
        }

        private boolean spells(String word) {
            if (end - place != word.length()) {
                return false;
            }
            for (int i = 0; i < word.length(); i++) {
                if (bytes[place + i] != word.charAt(i)) {
                    return false;
                }
            }
            return true;
        }

        /** The bits that matter times GROUPS, and the bits wanted; below 0, if the word is no pattern. */
        private int pattern() {
            if (end - place != 3) {
                return -1;
            }
            int means = bitsOf(bytes[place], 'r', 'p', RICH);
            int lists = bitsOf(bytes[place + 1], 'l', 'u', LISTED);
            int choice = bitsOf(bytes[place + 2], 'y', 'n', YES);
            return means < 0 || lists < 0 || choice < 0 ? -1 : means + lists + choice;
        }

        private static int bitsOf(int letter, char has, char lacks, int bit) {
            if (letter == has) {
                return bit * GROUPS + bit;
            }
            if (letter == lacks) {
                return bit * GROUPS;
            }
            return letter == 'x' ? 0 : -1;
        }

        private static boolean isLetter(int sign) {
            return sign >= 'a' && sign <= 'z';
        }

        private static boolean isDigit(int sign) {
            return sign >= '0' && sign <= '9';
        }
    }

    /** The finds that askers keep to. Those just read wait aside until the whole text is right. */
    private static final class Habit {
        private final int[] patterns = new int[FINDS];
        private final int[] limits = new int[FINDS];
        private final int[] readPatterns = new int[FINDS];
        private final int[] readLimits = new int[FINDS];
        private int finds = 0;

        int learn(Text text) {
            text.rewind();
            for (int read = 0; read <= FINDS; read++) {
                text.advance();
                if (text.token == Token.END) {
                    return keep(read, text);
                }
                if (read == FINDS || !readFind(text, read)) {
                    return -10 - text.place;
                }
            }
            return -10 - text.place;
        }

        private int keep(int read, Text text) {
            System.arraycopy(readPatterns, 0, patterns, 0, FINDS);
            System.arraycopy(readLimits, 0, limits, 0, FINDS);
            finds = read;
            text.empty();
            return finds;
        }

        /** Whether a find stands here; if not, the text stands at the token that is at fault. */
        private boolean readFind(Text text, int at) {
            boolean limited = text.token == Token.FIND;
            if (!limited && text.token != Token.ALL) {
                return false;
            }
            text.advance();
            if (text.token != Token.PATTERN) {
                return false;
            }
            readPatterns[at] = text.value;
            // A land has no more persons than this, so it lets "all" find any number.
            readLimits[at] = PERSONS;
            text.advance();
            if (limited) {
                if (text.token != Token.NUMBER || !within(text.value, 1, PERSONS)) {
                    return false;
                }
                readLimits[at] = text.value;
                text.advance();
            }
            return text.token == Token.SEMICOLON;
        }
    }

    /** Whom an asker has met, who must find so many poor and so many rich. */
    private static final class Asker {
        private final int[] met = new int[GROUPS];
        private int wantedPoor = 0;
        private int wantedRich = 0;

        void ask(Lands lands, int land, Habit habit, int poor, int rich) {
            Arrays.fill(met, 0);
            wantedPoor = poor;
            wantedRich = rich;
            for (int i = 0; i < habit.finds && i < FINDS; i++) {
                meet(lands, land, habit.patterns[i], habit.limits[i]);
            }
            meet(lands, land, ANY, PERSONS);
        }

        private void meet(Lands lands, int land, int pattern, int limit) {
            int matters = pattern / GROUPS;
            int wanted = pattern % GROUPS;
            int left = limit;
            for (int group = 0; group < GROUPS; group++) {
                if ((group & matters) == wanted) {
                    left -= meetGroup(group, Math.min(left, lands.of(land, group) - met[group]));
                }
            }
        }

        private int meetGroup(int group, int most) {
            boolean rich = (group & RICH) != 0;
            int more = Math.min(most, rich ? wantedRich : wantedPoor);
            met[group] += more;
            if (rich) {
                wantedRich -= more;
            } else {
                wantedPoor -= more;
            }
            return more;
        }

        int metOfGroup(int group) {
            return met[group];
        }

        int met(int matters, int wanted) {
            int sum = 0;
            for (int group = 0; group < GROUPS; group++) {
                if ((group & matters) == wanted) {
                    sum += met[group];
                }
            }
            return sum;
        }
    }

    /** Draws of k among n persons, c of whom say yes. */
    private static final class Lots {
        private final long[] triangle = new long[(PERSONS + 1) * (PERSONS + 2) / 2];
        private final long[] waysByDistance = new long[HUNDRED + 1];

        Lots() {
            for (int n = 0; n <= PERSONS; n++) {
                int row = n * (n + 1) / 2;
                triangle[row] = 1;
                triangle[row + n] = 1;
                for (int k = 1; k < n; k++) {
                    triangle[row + k] = triangle[row - n + k - 1] + triangle[row - n + k];
                }
            }
        }

        long choose(int n, int k) {
            return within(n, 0, PERSONS) && within(k, 0, n) ? triangle[n * (n + 1) / 2 + k] : 0;
        }

        /** Ways in which just y of those drawn say yes. */
        long just(int n, int c, int k, int y) {
            return choose(c, y) * choose(n - c, k - y);
        }

        /** How far y by k is from c by n, in hundredths, rounded up: so it can be held against whole ones. */
        private static int distance(int n, int c, int k, int y) {
            int lower = n * k;
            if (lower < 1) {
                return HUNDRED;
            }
            return Math.min(HUNDRED, (Math.abs(y * n - c * k) * HUNDRED + lower - 1) / lower);
        }

        long near(int n, int c, int k, int d) {
            long sum = 0;
            for (int y = 0; y <= k; y++) {
                if (distance(n, c, k, y) <= d) {
                    sum += just(n, c, k, y);
                }
            }
            return sum;
        }

        private static boolean isEnough(long ways, long all, int h) {
            return ways * HUNDRED >= all * h;
        }

        int fewest(int n, int c, int d, int h) {
            for (int k = 1; k < n; k++) {
                if (isEnough(near(n, c, k, d), choose(n, k), h)) {
                    return k;
                }
            }
            return n;
        }

        /** The least distance within which h hundredths of all ways are. */
        int leastDistance(int n, int c, int k, int h) {
            Arrays.fill(waysByDistance, 0L);
            for (int y = 0; y <= k; y++) {
                waysByDistance[distance(n, c, k, y)] += just(n, c, k, y);
            }
            long all = choose(n, k);
            long sum = 0;
            for (int d = 0; d < HUNDRED; d++) {
                sum += waysByDistance[d];
                if (isEnough(sum, all, h)) {
                    return d;
                }
            }
            return HUNDRED;
        }

        int likeliest(int n, int k, int y) {
            int best = 0;
            for (int c = 1; c <= n; c++) {
                if (just(n, c, k, y) > just(n, best, k, y)) {
                    best = c;
                }
            }
            return best;
        }

        private boolean isLikely(int n, int c, int k, int y, long mostWays) {
            return just(n, c, k, y) * 10 >= mostWays;
        }

        int leastTruth(int n, int k, int y, long mostWays) {
            for (int c = 0; c < n; c++) {
                if (isLikely(n, c, k, y, mostWays)) {
                    return c;
                }
            }
            return n;
        }

        int mostTruth(int n, int k, int y, long mostWays) {
            for (int c = n; c > 0; c--) {
                if (isLikely(n, c, k, y, mostWays)) {
                    return c;
                }
            }
            return 0;
        }
    }

    /** Shares by weeks, in thousandths. */
    private static final class Weeks {
        private static final int HALF = 500;

        private final int[] shares = new int[WEEKS];
        private int many = 0;

        int append(int v) {
            if (many >= WEEKS) {
                return FULL;
            }
            shares[many] = v;
            many++;
            return many;
        }

        int rise(int w) {
            return greatestChange(w, 1);
        }

        int fall(int w) {
            return greatestChange(w, -1);
        }

        private int greatestChange(int w, int sign) {
            if (w >= many) {
                return NONE;
            }
            int greatest = 0;
            for (int i = 0; i + w < many; i++) {
                greatest = Math.max(greatest, sign * (shares[i + w] - shares[i]));
            }
            return greatest;
        }

        /** For how many weeks the last share is sure of its side. */
        int sure() {
            int w = 0;
            while (w + 1 < many && stays(w + 1)) {
                w++;
            }
            return w;
        }

        private boolean stays(int w) {
            int last = shares[many - 1];
            return last >= HALF ? last - fall(w) >= HALF : last + rise(w) < HALF;
        }

        void empty() {
            many = 0;
        }
    }

    /** By how much each span was too small. Least first, so that the h-th tells how much h rows need. */
    private static final class House {
        private final int[] needs = new int[ROWS];
        private int rows = 0;

        int append(int need) {
            if (rows >= ROWS) {
                return FULL;
            }
            int at = rows;
            while (at > 0 && needs[at - 1] > need) {
                needs[at] = needs[at - 1];
                at--;
            }
            needs[at] = need;
            rows++;
            return rows;
        }

        int holding(int more) {
            int sum = 0;
            for (int i = 0; i < rows; i++) {
                if (needs[i] <= more) {
                    sum++;
                }
            }
            return sum;
        }

        int needFor(int h) {
            if (h > rows) {
                return NONE;
            }
            return h < 1 ? 0 : needs[h - 1];
        }

        void empty() {
            rows = 0;
        }
    }
}
