/** Each sentence of the document that names an edge of the text, of habits and of askers (promises 6 to 11). */
public final class AskerEdgesTest extends Refusals {
    public static void main(String[] args) {
        typedBytes();
        textIsFull();
        clear();
        emptyHabit();
        textOfAllBytes();
        findsAtMost();
        blanks();
        everyByte();
        numbers();
        patterns();
        endsTooEarly();
        faultsKeepAll();
        foundBounds();
        foundAsWanted();
        foundAsFindsLet();
        foundByAllFinds();
        weighedBounds();
        weighedMeans();
        mendsBounds();
        mends();
        end("AskerEdgesTest");
    }

    // ---- the text

    private static void typedBytes() {
        about("6: the lowest n (1 .. 8) bytes of v, the highest of them first");
        PostedAsks x = new PostedAsks();
        String find = "all rly;";
        for (int n = 1; n <= 8; n++) {
            // The n bytes behind the find's others, with bytes ahead of them that must not come.
            typeText(x, find.substring(0, 8 - n));
            long v = -1L;
            for (int i = 8 - n; i < 8; i++) {
                v = v << 8 | find.charAt(i);
            }
            due("n " + n, x.type(v, n), 8);
            due("as it should be read", x.habit(), 1);
        }
        outside("n", 1, 8, (y, v) -> y.type(0x2020202020202020L, v), BAD);
        about("6: any v");
        due("a blank behind ones", x.type(-256L | ' ', 1), 1);
        due("no FINDS", x.habit(), 0);
        due("the least", x.type(Long.MIN_VALUE, 8), 8);
        due("byte 128 begins no TOKEN", x.habit(), -10);
        due("its lowest byte", x.type(Long.MIN_VALUE, 1), 9);
        due("the greatest", x.type(Long.MAX_VALUE, 8), 17);
        due("bytes", x.clear(), 17);
    }

    private static PostedAsks typed(int bytes) {
        PostedAsks x = new PostedAsks();
        typeText(x, times(" ", bytes));
        return x;
    }

    private static void textIsFull() {
        about("6: 300 bytes at most");
        for (int n = 1; n <= 8; n++) {
            int many = n;
            PostedAsks x = typed(300 - n);
            due("just as many as there is room for", x.type(0, n), 300);
            due("all are there", x.count(4), 300);
            State lacksOne = () -> typed(301 - many);
            refusedIn(lacksOne, "one more than there is room for", y -> y.type(0, many), FULL);
            refusedIn(() -> typed(300), "none has room", y -> y.type(0, many), FULL);
            refusedIn(Refusals::full, "none has room", y -> y.type(0, many), FULL);
        }
        due("what has room still comes", typed(299).type(0, 1), 300);
    }

    private static void clear() {
        about("7: how many bytes it had");
        PostedAsks x = new PostedAsks();
        due("none", x.clear(), 0);
        x.type(0, 1);
        due("one", x.clear(), 1);
        due("none again", x.clear(), 0);
        due("300", typed(300).clear(), 300);
        about("7: the text is empty");
        PostedAsks full = full();
        due("had", full.clear(), 300);
        due("has", full.count(4), 0);
        due("room for eight", full.type(0, 8), 8);
        due("had eight", full.clear(), 8);
        due("the habit stays", full.count(1), 12);
        due("what was cleared is not read", full.habit(), 0);
        PostedAsks some = some();
        some.clear();
        typeText(some, "all rl");
        same("no more than the text changed", readOut(some), readOut(some()));
    }

    // ---- the habit

    private static void emptyHabit() {
        about("8: a text without TOKENS has no FINDS");
        for (int bytes : new int[] {0, 1, 299, 300}) {
            PostedAsks x = settled(0, 3, 0, 0, 0, 0, 3);
            due("a find", habitOf(x, "all xly;"), 1);
            due("by which it goes", x.found(0, 3, 0, 5), 3);
            typeText(x, times(" ", bytes));
            due(bytes + " blanks", x.habit(), 0);
            due("no FINDS", x.count(1), 0);
            due("no text", x.count(4), 0);
            due("as all xxx goes", x.found(0, 3, 0, 0), 3);
        }
    }

    private static void textOfAllBytes() {
        about("8: a text of 300 bytes is read to its end");
        due("blanks ahead", newHabit(times(" ", 292) + "all xxx;"), 1);
        due("blanks behind", newHabit("all xxx;" + times(" ", 292)), 1);
        due("blanks inside", newHabit("all" + times(" ", 293) + "xxx;"), 1);
        due("twelve finds", newHabit(times("find   xxx   50   ;     ", 12) + times(" ", 12)), 12);
        due("a fault at the last byte", newHabit(times(" ", 299) + ";"), -309);
        due("a word up to the last byte", newHabit(times(" ", 296) + "find"), -310);
        due("a fault of a word up to there", newHabit(times(" ", 297) + "fin"), -307);
        due("a pattern up to the last byte", newHabit(times(" ", 293) + "all xxx"), -310);
        due("a number up to the last byte", newHabit(times(" ", 289) + "find xxx 50"), -310);
        due("one too great up to there", newHabit(times(" ", 289) + "find xxx 51"), -308);
        due("300 letters", newHabit(times("a", 300)), -10);
        due("300 digits", newHabit(times("1", 300)), -10);
        due("a number of 290 digits", newHabit("find rly  " + times("0", 289) + "1"), -20);
    }

    private static int newHabit(String text) {
        return habitOf(new PostedAsks(), text);
    }

    private static void findsAtMost() {
        about("8: 12 FINDS at most; a 13th FIND's first TOKEN is at fault");
        PostedAsks x = new PostedAsks();
        for (int finds = 1; finds <= 12; finds++) {
            due(finds + " finds", habitOf(x, times("find xxx 1;", finds)), finds);
            due("FINDS", x.count(1), finds);
        }
        String twelve = times("all xxx;", 12);
        PostedAsks y = new PostedAsks();
        due("blanks behind the 12th", habitOf(y, twelve + "  "), 12);
        due("a 13th", habitOf(y, twelve + "all xxx;"), -10 - 96);
        due("behind blanks", habitOf(y, twelve + "   find xxx 1;"), -10 - 99);
        due("that isn't whole", habitOf(y, twelve + "find"), -10 - 96);
        due("a wrong word", habitOf(y, twelve + "finds"), -10 - 96);
        due("an end", habitOf(y, twelve + " ;"), -10 - 97);
        due("a fault in the 12th comes first", habitOf(y, times("all xxx;", 11) + "all xxx all xxx;"), -10 - 96);
        due("FINDS", y.count(1), 12);
    }

    private static void blanks() {
        about("8: blanks between TOKENS");
        PostedAsks x = new PostedAsks();
        due("none but between words", habitOf(x, "find xxx1;all xxx;find rly50;"), 3);
        due("many", habitOf(x, "   find    xxx    1   ;   all   xxx   ;   "), 2);
        due("none between words", habitOf(x, "findxxx 1;"), -10);
        due("none between words", habitOf(x, "allxxx;"), -10);
        due("within a word", habitOf(x, "fi nd xxx 1;"), -10);
        due("within a pattern", habitOf(x, "all xx x;"), -14);
        due("within a number", habitOf(x, "find xxx 1 2;"), -21);
    }

    private static boolean isLetter(int sign) {
        return sign >= 'a' && sign <= 'z';
    }

    private static boolean isDigit(int sign) {
        return sign >= '0' && sign <= '9';
    }

    private static void everyByte() {
        about("8: words of a .. z, NUMBERS, ; and blanks (32); a byte that begins none is at fault");
        for (int sign = 0; sign < 256; sign++) {
            PostedAsks x = new PostedAsks();
            String one = String.valueOf((char) sign);
            boolean blank = sign == 32;
            due("byte " + sign + " alone", habitOf(x, one), blank ? 0 : -10);
            due("byte " + sign + " ahead", habitOf(x, one + " all xxx;"), blank ? 1 : -10);
            due("byte " + sign + " behind", habitOf(x, "all xxx; " + one), blank ? 1 : -19);
            int joined = blank ? 1 : isLetter(sign) ? -14 : sign == ';' ? -18 : -17;
            due("byte " + sign + " behind a pattern", habitOf(x, "all xxx" + one + ";"), joined);
            int split = blank ? 1 : isLetter(sign) ? -10 : -13;
            due("byte " + sign + " between words", habitOf(x, "all" + one + "xxx;"), split);
            int number = sign >= '1' && sign <= '9' ? 1 : blank ? -20 : -19;
            due("byte " + sign + " for a number", habitOf(x, "find xxx " + one + ";"), number);
            int second = isDigit(sign) || blank ? 1 : sign == ';' ? -21 : -20;
            due("byte " + sign + " behind a digit", habitOf(x, "find xxx 1" + one + ";"), second);
            int end = sign == ';' ? 1 : blank ? -18 : isLetter(sign) ? -14 : -17;
            due("byte " + sign + " for the end", habitOf(x, "all xxx" + one), end);
        }
    }

    private static void numbers() {
        about("8: N 1 .. 50; beyond, above 99 or with a 0 ahead, the NUMBER is at fault");
        for (int n = 0; n <= 300; n++) {
            PostedAsks x = new PostedAsks();
            int want = n >= 1 && n <= 50 ? 1 : -19;
            due("N " + n, habitOf(x, "find rly " + n + ";"), want);
            due("no 0 ahead of " + n, habitOf(x, "find rly 0" + n + ";"), -19);
            due("no two 0 ahead of " + n, habitOf(x, "find rly 00" + n + ";"), -19);
        }
        // Numbers that come to 1 .. 50 where they are held in too few bits.
        for (String great : new String[] {"257", "65537", "4294967297", "4294967346", "8589934593",
            "18446744073709551617", "18446744073709551666", "340282366920938463463374607431768211457"}) {
            PostedAsks x = new PostedAsks();
            due("N " + great, habitOf(x, "find rly " + great + ";"), -19);
        }
        about("8: a NUMBER where none can stand");
        PostedAsks x = new PostedAsks();
        due("first", habitOf(x, "1 find rly 1;"), -10);
        due("for a pattern", habitOf(x, "find 1;"), -15);
        due("behind all", habitOf(x, "all rly 1;"), -18);
        due("twice", habitOf(x, "find rly 1 1;"), -21);
        due("behind ;", habitOf(x, "find rly 1; 1"), -22);
    }

    private static void patterns() {
        about("8: a PATTERN is three letters; a word that is none is at fault");
        PostedAsks x = new PostedAsks();
        int patterns = 0;
        for (int word = 0; word < 26 * 26 * 26; word++) {
            if (word % 60 == 0) {
                x = new PostedAsks();
            }
            String letters = "" + (char) ('a' + word / 676) + (char) ('a' + word / 26 % 26) + (char) ('a' + word % 26);
            boolean right = "rpx".indexOf(letters.charAt(0)) >= 0 && "lux".indexOf(letters.charAt(1)) >= 0
                && "ynx".indexOf(letters.charAt(2)) >= 0;
            patterns += right ? 1 : 0;
            due("'" + letters + "'", habitOf(x, "all " + letters + ";"), right ? 1 : -14);
        }
        due("patterns", patterns, 27);
        for (String word : new String[] {"r", "rl", "rlyx", "rlyrly", "find", "all", "Rly", "rLy", "rlY", "RLY"}) {
            due("'" + word + "'", newHabit("all " + word + ";"), -14);
        }
        for (String word : new String[] {"f", "fi", "fin", "finf", "findx", "fond", "mind", "a", "al", "ala", "ell", "alls", "xall", "rly", "xxx"}) {
            due("'" + word + "' for find", newHabit(word + " rly 1;"), -10);
            due("'" + word + "' for all", newHabit(word + " rly;"), -10);
        }
        patternsMean();
    }

    private static boolean letterFits(int bit, char letter, char has) {
        return letter == 'x' || (letter == has) == (bit != 0);
    }

    private static boolean fits(int group, String pattern) {
        return letterFits(group & 2, pattern.charAt(0), 'r') && letterFits(group & 4, pattern.charAt(1), 'l')
            && letterFits(group & 1, pattern.charAt(2), 'y');
    }

    private static void patternsMean() {
        about("8: r rich, p poor; l on LISTS, u not; y yes, n no; x any");
        for (int i = 0; i < 27; i++) {
            String pattern = "" + "rpx".charAt(i / 9) + "lux".charAt(i / 3 % 3) + "ynx".charAt(i % 3);
            PostedAsks x = settled(0, 5, 5, 5, 5, 5, 5, 5, 5);
            due("'" + pattern + "'", habitOf(x, "all " + pattern + ";"), 1);
            int[] wanted = {0, 0};
            for (int group = 0; group < 8; group++) {
                wanted[group / 2 % 2] += fits(group, pattern) ? 5 : 0;
            }
            // Just as many are wanted as fit, so that nobody else is found.
            for (int group = 0; group < 8; group++) {
                int want = fits(group, pattern) ? 5 : 0;
                due("'" + pattern + "' of group " + group, x.found(0, wanted[0], wanted[1], group), want);
            }
        }
    }

    private static void endsTooEarly() {
        about("8: the text's length, if it ends too early");
        String text = "find rly 50;all pun;";
        int[] want = {0, -10, -10, -10, -14, -15, -15, -15, -18, -19, -20, -21, 1, -22, -22, -25, -26, -26, -26, -29, 2};
        for (int length = 0; length <= text.length(); length++) {
            String part = text.substring(0, length);
            due("'" + part + "'", newHabit(part), want[length]);
        }
        for (String part : new String[] {"find", "find rly", "find rly 5", "all", "all rly"}) {
            PostedAsks x = new PostedAsks();
            due("'" + part + "' and blanks", habitOf(x, part + "   "), -10 - part.length() - 3);
            due("behind a find", habitOf(x, "all xxx;" + part), -10 - part.length() - 8);
        }
        due("one that ends, behind a fault", newHabit("rly find"), -10);
    }

    private static PostedAsks withText(String text) {
        PostedAsks x = settled(0, 2, 3, 2, 1, 2, 3, 3, 4);
        due("habit", habitOf(x, "find xly 2; all xun;"), 2);
        typeText(x, text);
        return x;
    }

    private static void faultsKeepAll() {
        about("8: at a FAULT nothing changes");
        String[] texts = {";", "all", "find rly 0;", "find rly 51;", "all rly; find pun 3; junk", "all rlz;", "all rly; #",
            times("all rly;", 13), times("all rly;", 12) + times(" ", 203) + "x", times(" ", 300 - 7) + "all rly"};
        int[] wants = {-10, -13, -19, -19, -31, -14, -19, -106, -309, -310};
        for (int i = 0; i < texts.length; i++) {
            String text = texts[i];
            refusedIn(() -> withText(text), "'" + text + "'", PostedAsks::habit, wants[i]);
            PostedAsks x = withText(text);
            due("once", x.habit(), wants[i]);
            due("and again", x.habit(), wants[i]);
        }
        refusedIn(Refusals::some, "what ends too early", PostedAsks::habit, -14);
        PostedAsks mended = withText("all rly; find pun 3");
        due("without its end", mended.habit(), -29);
        due("the end", mended.type(';', 1), 20);
        due("then it is right", mended.habit(), 2);
    }

    // ---- found

    private static void foundBounds() {
        about("9: LANDS 0 .. 3; A, B 0 .. 50 each; GROUP 0 .. 7, or 8");
        PostedAsks x = new PostedAsks();
        for (int land = 0; land < 4; land++) {
            settle(x, land, 1, 2, 3, 4, 5, 6, 7, 8 + land);
            for (int what = 0; what < 8; what++) {
                due("group " + what, x.found(land, 50, 50, what), what == 7 ? 8 + land : what + 1);
            }
            due("all", x.found(land, 50, 50, 8), 36 + land);
            due("none", x.found(land, 0, 0, 8), 0);
        }
        outside("land", 0, 3, (y, v) -> y.found(v, 1, 1, 8), BAD);
        outside("poor", 0, 50, (y, v) -> y.found(0, v, 1, 8), BAD);
        outside("rich", 0, 50, (y, v) -> y.found(0, 1, v, 8), BAD);
        outside("what", 0, 8, (y, v) -> y.found(0, 1, 1, v), BAD);
        refused("all four", y -> y.found(4, 51, 51, 9), BAD);
    }

    private static void foundAsWanted() {
        about("9: as many as there are, as are still wanted of their means");
        PostedAsks poor = settled(0, 25, 25);
        PostedAsks rich = settled(0, 0, 0, 25, 25);
        for (int wanted = 0; wanted <= 50; wanted++) {
            int first = Math.min(wanted, 25);
            due("poor " + wanted, poor.found(0, wanted, 0, 8), wanted);
            due("poor of no", poor.found(0, wanted, 50, 0), first);
            due("poor of yes", poor.found(0, wanted, 7, 1), wanted - first);
            due("rich are wanted of the poor", poor.found(0, 0, wanted, 8), 0);
            due("rich " + wanted, rich.found(0, 0, wanted, 8), wanted);
            due("rich of no", rich.found(0, 50, wanted, 2), first);
            due("rich of yes", rich.found(0, 7, wanted, 3), wanted - first);
            due("poor are wanted of the rich", rich.found(0, wanted, 0, 8), 0);
        }
        PostedAsks few = settled(0, 1, 0, 0, 2);
        due("more than there are", few.found(0, 50, 50, 8), 3);
        due("just as many", few.found(0, 1, 2, 8), 3);
        due("one less", few.found(0, 1, 1, 8), 2);
        due("nobody of a group", few.found(0, 50, 50, 7), 0);
    }

    private static void foundAsFindsLet() {
        about("9: as the FIND still lets (all: any number)");
        for (int n = 1; n <= 50; n++) {
            PostedAsks x = settled(0, 25, 0, 0, 0, 0, 25);
            due("find", habitOf(x, "find xly " + n + ";"), 1);
            int first = Math.min(n, 25);
            due("N " + n, x.found(0, 25, 0, 5), first);
            due("the others", x.found(0, 25, 0, 0), 25 - first);
            due("no more than wanted", x.found(0, 20, 0, 5), Math.min(n, 20));
        }
        PostedAsks all = settled(0, 0, 0, 0, 0, 0, 0, 0, 50);
        due("all", habitOf(all, "all rly;"), 1);
        due("any number", all.found(0, 0, 50, 7), 50);
        PostedAsks over = settled(0, 2, 2, 2, 2, 2, 2, 2, 2);
        due("over groups", habitOf(over, "find xxy 5;"), 1);
        due("2 of group 1", over.found(0, 3, 3, 1), 2);
        due("2 of group 3", over.found(0, 3, 3, 3), 2);
        due("1 of group 5", over.found(0, 3, 3, 5), 1);
        due("none of group 7", over.found(0, 3, 3, 7), 0);
        due("then 1 of group 2", over.found(0, 3, 3, 2), 1);
        due("means that is not wanted leaves more", over.found(0, 0, 4, 7), 2);
        about("9: that were not found yet");
        due("twice the same", habitOf(over, "find pun 1; find pun 1; find pun 1;"), 3);
        due("2 are there", over.found(0, 3, 0, 0), 2);
        due("another", over.found(0, 3, 0, 1), 1);
    }

    private static void foundByAllFinds() {
        about("9: FIND by FIND, the 12th too; behind all by all xxx");
        PostedAsks x = settled(0, 25, 0, 0, 0, 0, 25);
        due("twelve", habitOf(x, times("find xly 1;", 12)), 12);
        due("12 wanted", x.found(0, 12, 0, 5), 12);
        due("none else", x.found(0, 12, 0, 0), 0);
        due("13 wanted", x.found(0, 13, 0, 5), 12);
        due("one else", x.found(0, 13, 0, 0), 1);
        due("then the rest", x.found(0, 50, 0, 8), 50);
        due("the 12th alone counts", habitOf(x, times("find rxx 1;", 11) + "all xly;"), 12);
        due("by it", x.found(0, 25, 0, 5), 25);
        due("fewer FINDS", habitOf(x, "find rxx 1;"), 1);
        due("those before are gone", x.found(0, 25, 0, 5), 0);
    }

    // ---- weighed, mends

    private static void weighedBounds() {
        about("10: LANDS 0 .. 3; A, B 0 .. 50 each; what 0, 1");
        PostedAsks x = new PostedAsks();
        for (int land = 0; land < 4; land++) {
            settle(x, land, 10, 15, 13, 12);
            due("upper", x.weighed(land, 50, 50, 0), 27);
            due("lower", x.weighed(land, 50, 50, 1), 50);
            due("one of each", x.weighed(land, 1, 1, 0), 0);
            due("by 1", x.weighed(land, 1, 1, 1), 1);
        }
        outside("land", 0, 3, (y, v) -> y.weighed(v, 50, 50, 0), NO);
        outside("poor", 0, 50, (y, v) -> y.weighed(0, v, 50, 0), NO);
        outside("rich", 0, 50, (y, v) -> y.weighed(0, 50, v, 0), NO);
        outside("what", 0, 1, (y, v) -> y.weighed(0, 50, 50, v), NO);
    }

    private static void weighedDue(PostedAsks x, int poor, int rich, long upper, long lower) {
        due("upper of " + poor + ", " + rich, x.weighed(0, poor, rich, 0), upper);
        due("lower of " + poor + ", " + rich, x.weighed(0, poor, rich, 1), lower);
    }

    private static void weighedMeans() {
        about("10: means of which the LAND has nobody count nothing");
        PostedAsks poor = settled(0, 2, 4);
        weighedDue(poor, 6, 0, 2, 3);
        weighedDue(poor, 3, 50, 1, 3);
        PostedAsks rich = settled(0, 0, 0, 0, 0, 0, 0, 1, 49);
        weighedDue(rich, 0, 50, 49, 50);
        weighedDue(rich, 50, 2, 1, 2);
        about("10: NO, if one of which it has some was not FOUND");
        weighedDue(poor, 0, 50, NO, NO);
        weighedDue(rich, 50, 0, NO, NO);
        PostedAsks both = settled(0, 0, 1, 49);
        weighedDue(both, 1, 1, 1, 50);
        weighedDue(both, 0, 49, NO, NO);
        weighedDue(both, 1, 0, NO, NO);
        weighedDue(both, 0, 0, NO, NO);
        PostedAsks other = settled(0, 49, 0, 0, 1);
        weighedDue(other, 49, 1, 1, 50);
        weighedDue(other, 49, 0, NO, NO);
        weighedDue(other, 0, 1, NO, NO);
        about("10: NO where there is nobody to share");
        weighedDue(new PostedAsks(), 50, 50, NO, NO);
        weighedDue(new PostedAsks(), 0, 0, NO, NO);
        about("10: in least terms");
        weighedDue(settled(0, 0, 25, 0, 25), 25, 25, 1, 1);
        weighedDue(settled(0, 25, 0, 25), 25, 25, 0, 1);
        PostedAsks odd = settled(0, 2, 22, 23, 3);
        due("habit", habitOf(odd, "find pxn 1;"), 1);
        // Of the poor 21 of 23 by 24 of 50, of the rich 1 of 24 by 26 of 50.
        weighedDue(odd, 23, 24, 6347, 13800);
    }

    private static void mendsBounds() {
        about("11: NONE: BAD");
        PostedAsks x = new PostedAsks();
        for (int land = 0; land < 4; land++) {
            settle(x, land, 10, 0, 0, 10);
            due("land " + land, x.mends(land, 1, 50), 1);
            due("all", x.mends(land, 50, 50), 0);
        }
        outside("land", 0, 3, (y, v) -> y.mends(v, 50, 50), NONE);
        outside("poor", 0, 50, (y, v) -> y.mends(0, v, 50), NONE);
        outside("rich", 0, 50, (y, v) -> y.mends(0, 50, v), NONE);
    }

    private static void mends() {
        about("11: NONE: one of both shares is not there");
        PostedAsks x = settled(0, 10, 0, 0, 10);
        due("no poor", x.mends(0, 0, 5), NONE);
        due("no rich", x.mends(0, 5, 0), NONE);
        due("nobody", x.mends(0, 0, 0), NONE);
        due("nobody is there", x.mends(1, 50, 50), NONE);
        PostedAsks poor = settled(0, 1, 1);
        due("the poor alone", poor.mends(0, 1, 0), 0);
        due("none of them", poor.mends(0, 0, 1), NONE);
        about("11: 1, -1, else 0");
        due("both are the TRUTH", x.mends(0, 10, 10), 0);
        due("weighed is", x.mends(0, 10, 9), 1);
        // Found 1 poor of yes, 1 rich of no: weighed 1/6, plain 1/2, TRUTH 1/3.
        due("on either side, as far", settled(0, 0, 1, 4, 1).mends(0, 1, 1), 0);
        // One rich of no more: weighed 1/7, plain 1/2, TRUTH 2/7: 2/14 against 3/14.
        due("weighed is nearer", settled(0, 0, 1, 5, 1).mends(0, 1, 1), 1);
        // One less: weighed 1/5, plain 1/2, TRUTH 2/5: 2/10 against 1/10.
        due("plain is nearer", settled(0, 0, 1, 3, 1).mends(0, 1, 1), -1);
    }
}
