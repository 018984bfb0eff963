/** Each promise of the document, with answers worked out by hand: ordinary inputs, edges, wrong inputs. */
public final class PromisesTest extends Checks {
    public static void main(String[] args) {
        newObject();
        land();
        rate();
        people();
        posted();
        type();
        clear();
        habit();
        habitFaults();
        found();
        weighed();
        mends();
        ways();
        few();
        may();
        shadow();
        week();
        turn();
        stops();
        house();
        held();
        wider();
        price();
        error();
        best();
        cost();
        begin();
        count();
        trace();
        end("PromisesTest");
    }

    private static void newObject() {
        about("1 a new object");
        PostedAsks x = new PostedAsks();
        for (int what = 0; what < 5; what++) {
            due("count " + what, x.count(what), 0);
        }
        for (int land = 0; land < 4; land++) {
            for (int what = 0; what < 6; what++) {
                due("people", x.people(land, what), 0);
            }
        }
        for (int group = 0; group < 8; group++) {
            due("rate " + group, x.rate(group, 1), 100);
        }
        due("P", x.price(0, 3), 1);
        due("Q", x.price(1, 3), 5);
        due("H", x.price(2, 3), 90);
        due("trace", x.trace(), 0);
        due("stops", x.stops(), 0);
        due("held", x.held(1000), 0);
        PostedAsks y = new PostedAsks();
        due("objects share nothing", y.rate(0, 1), 100);
    }

    private static void land() {
        about("2 land");
        PostedAsks x = new PostedAsks();
        due("first", x.land(0, 0, 50), 0);
        due("one more", x.land(0, 7, 1), FULL);
        due("nothing changed", x.people(0, 0), 50);
        due("same again", x.land(0, 0, 50), 50);
        due("other land", x.land(3, 7, 50), 0);
        due("less", x.land(0, 0, 20), 50);
        due("rest", x.land(0, 7, 30), 0);
        due("31 there", x.land(0, 7, 31), FULL);
        due("30 kept", x.land(0, 7, 0), 30);
        due("land -1", x.land(-1, 0, 0), BAD);
        due("land 4", x.land(4, 0, 0), BAD);
        due("group -1", x.land(0, -1, 0), BAD);
        due("group 8", x.land(0, 8, 0), BAD);
        due("v -1", x.land(0, 0, -1), BAD);
        due("BAD ahead of FULL", x.land(0, 0, 51), BAD);
        due("far out", x.land(Integer.MIN_VALUE, Integer.MAX_VALUE, Integer.MIN_VALUE), BAD);
        due("kept", x.count(0), 70);
    }

    private static void rate() {
        about("3 rate");
        PostedAsks x = new PostedAsks();
        due("first", x.rate(0, 0), 100);
        due("second", x.rate(0, 100), 0);
        due("last group", x.rate(7, 33), 100);
        due("group 8", x.rate(8, 1), BAD);
        due("group -1", x.rate(-1, 1), BAD);
        due("v 101", x.rate(7, 101), BAD);
        due("v -1", x.rate(7, -1), BAD);
        due("kept", x.rate(7, 33), 33);
    }

    private static void people() {
        about("4 people");
        PostedAsks x = settled(2, 1, 2, 3, 4, 5, 6, 7, 8);
        int[] want = {36, 20, 26, 14, 22, 12};
        for (int what = 0; what < 6; what++) {
            due("people " + what, x.people(2, what), want[what]);
            due("another land", x.people(1, what), 0);
        }
        due("what -1", x.people(2, -1), BAD);
        due("what 6", x.people(2, 6), BAD);
        due("land -1", x.people(-1, 0), BAD);
        due("land 4", x.people(4, 0), BAD);
    }

    private static void posted() {
        about("5 posted");
        PostedAsks x = settled(0, 9, 9, 0, 0, 4, 6, 3, 7);
        due("BACK", x.posted(0, 0), 20);
        due("yes", x.posted(0, 1), 13);
        due("SHARE", x.posted(0, 2), 13);
        due("SHARE's lower", x.posted(0, 3), 20);
        // 13/20 - 22/38 = (247 - 220) / 380
        due("LEAN", x.posted(0, 4), 27);
        due("LEAN's lower", x.posted(0, 5), 380);
        x.rate(4, 74);
        x.rate(5, 49);
        x.rate(6, 33);
        x.rate(7, 0);
        due("2 + 2 + 0 + 0 back", x.posted(0, 0), 4);
        due("2 of yes", x.posted(0, 1), 2);
        due("a half", x.posted(0, 2), 1);
        due("by two", x.posted(0, 3), 2);
        // 1/2 - 11/19 = -3/38
        due("LEAN below 0", x.posted(0, 4), -3);
        due("its lower above 0", x.posted(0, 5), 38);
        x.rate(0, 0);
        due("rates off lists count nothing", x.posted(0, 0), 4);
        x.rate(4, 24);
        x.rate(5, 16);
        due("nobody back", x.posted(0, 0), 0);
        due("nobody's yes", x.posted(0, 1), 0);
        for (int what = 2; what < 6; what++) {
            due("none to share " + what, x.posted(0, what), NO);
            due("no land", x.posted(1, what), NO);
        }
        PostedAsks even = settled(3, 0, 0, 0, 0, 5);
        due("SHARE 0", even.posted(3, 2), 0);
        due("SHARE 0 by 1", even.posted(3, 3), 1);
        due("LEAN 0", even.posted(3, 4), 0);
        due("LEAN 0 by 1", even.posted(3, 5), 1);
        due("what -1", even.posted(3, -1), NO);
        due("what 6", even.posted(3, 6), NO);
        due("land 4", even.posted(4, 0), NO);
        due("land -1", even.posted(-1, 0), NO);
    }

    private static void type() {
        about("6 type");
        PostedAsks x = new PostedAsks();
        due("n 0", x.type(1, 0), BAD);
        due("n 9", x.type(1, 9), BAD);
        due("n -1", x.type(1, -1), BAD);
        // 0x616c6c "all" behind a byte that is left out
        due("lowest three", x.type(0x7a616c6cL, 3), 3);
        due("the highest first", x.type(0x2078787820203b20L, 8), 11);
        due("read", x.habit(), 1);
        due("all bits", x.type(-1L, 8), 8);
        due("no token", x.habit(), -10);
        for (int i = 2; i <= 37; i++) {
            due("row " + i, x.type(0, 8), 8 * i);
        }
        due("5 too many", x.type(0, 5), FULL);
        due("nothing came", x.count(4), 296);
        due("just full", x.type(0, 4), 300);
        due("beyond", x.type(0, 1), FULL);
        due("BAD ahead of FULL", x.type(0, 9), BAD);
    }

    private static void clear() {
        about("7 clear");
        PostedAsks x = new PostedAsks();
        due("empty", x.clear(), 0);
        due("typed", x.type(0, 5), 5);
        due("had", x.clear(), 5);
        due("now", x.count(4), 0);
        due("empty text", x.habit(), 0);
    }

    private static void habit() {
        about("8 habit");
        PostedAsks x = new PostedAsks();
        due("one", habitOf(x, "find rly 1;"), 1);
        due("empty then", x.count(4), 0);
        due("FINDS", x.count(1), 1);
        due("blanks", habitOf(x, "   find   pux   50   ;  all xxx  ;   "), 2);
        due("no blanks", habitOf(x, "find xln7;all pxy;find rxx 9;"), 3);
        due("twelve", habitOf(x, times("all xxx;", 12)), 12);
        due("twelve and blanks", habitOf(x, times("all xxx;", 12) + "   "), 12);
        due("thirteen", habitOf(x, times("all xxx;", 13)), -10 - 96);
        due("thirteen with a blank", habitOf(x, times("all xxx;", 12) + " find"), -10 - 97);
        due("the text stays", x.count(4), 101);
        due("the habit stays", x.count(1), 12);
        due("and again", x.habit(), -10 - 97);
        due("blanks only", habitOf(x, "     "), 0);
        due("no FINDS", x.count(1), 0);
        due("long", habitOf(x, times(" ", 292) + "all xxx;"), 1);
        due("nothing typed", x.habit(), 0);
        due("a long word", habitOf(x, "allxyz"), -10);
        due("what was cleared is not read", habitOf(x, "all"), -13);
        due("a long number", habitOf(x, "find rly 1234"), -19);
        due("nor its digits", habitOf(x, "find rly 1"), -20);
        due("a word up to the last byte", habitOf(x, times(" ", 297) + "all"), -310);
        due("a number up to the last byte", habitOf(x, times(" ", 290) + "find rly 7"), -310);
    }

    private static void fault(String text, int place) {
        PostedAsks x = new PostedAsks();
        due("'all pln;'", habitOf(x, "all pln;"), 1);
        due("'" + text + "'", habitOf(x, text), -10 - place);
        due("text", x.count(4), text.length());
        due("finds", x.count(1), 1);
    }

    private static void habitFaults() {
        about("8 habit, FAULT");
        fault(";", 0);
        fault("  5", 2);
        fault("rly", 0);
        fault("find;", 4);
        fault("find 3;", 5);
        fault("find find rly 3;", 5);
        fault("find all 3;", 5);
        fault("all;", 3);
        fault("find rly;", 8);
        fault("find rly all", 9);
        fault("find rly x 3;", 9);
        fault("find rly 3 4;", 11);
        fault("find rly 3 all xxx;", 11);
        fault("all rly 3;", 8);
        fault("all xxx;;", 8);
        fault("all xxx; find", 13);
        fault("all xxx; find ", 14);
        fault("all", 3);
        fault("all xxx", 7);
        fault("all xxx  ", 9);
        fault("find rly", 8);
        fault("find rly 3", 10);
        fault("find rly 0;", 9);
        fault("find rly 51;", 9);
        fault("find rly 99;", 9);
        fault("find rly 100;", 9);
        fault("find rly 05;", 9);
        fault("find rly 00;", 9);
        fault("find rly 4294967297;", 9);
        fault("find rly 18446744073709551617;", 9);
        fault("find rly 3,", 10);
        fault("find rly -3;", 9);
        fault("find yry 3;", 5);
        fault("find rl 3;", 5);
        fault("find rlyy 3;", 5);
        fault("find lry 3;", 5);
        fault("find rny 3;", 5);
        fault("find rlz 3;", 5);
        fault("find xxr 3;", 5);
        fault("findrly 3;", 0);
        fault("finds rly 3;", 0);
        fault("fin", 0);
        fault("mind rly 3;", 0);
        fault("ell xxx;", 0);
        fault("all xxxz;", 4);
        fault("all xxxa;", 4);
        fault("Find rly 3;", 0);
        fault("find Rly 3;", 5);
        fault("find rLy 3;", 5);
        fault("all\txxx;", 3);
        fault("all xxx\u00e9;", 7);
        fault("all xxx;\u0000", 8);
        fault("all xxx; `", 9);
        fault("all xxx; {", 9);
        fault("all xxx; /", 9);
        fault("all xxx; :", 9);
        fault("all xxx; find rly 3 foo 007 #", 20);
    }

    private static void found() {
        about("9 found");
        PostedAsks x = settled(0, 5, 5, 5, 5, 5, 5, 5, 5);
        due("poor first", x.found(0, 7, 0, 0), 5);
        due("then the next", x.found(0, 7, 0, 1), 2);
        due("no rich", x.found(0, 7, 0, 8), 7);
        due("rich", x.found(0, 0, 12, 6), 2);
        due("all", x.found(0, 50, 50, 8), 40);
        due("none", x.found(0, 0, 0, 8), 0);
        due("two finds", habitOf(x, "find xly 7; find xly 2; find rxx 1;"), 3);
        // 5 of group 5 and 2 of 7; then 2 more of 7; then 1 of group 2; then all: 3, and 4 more rich
        due("group 5", x.found(0, 6, 9, 5), 5);
        due("group 7", x.found(0, 6, 9, 7), 4);
        due("group 2", x.found(0, 6, 9, 2), 5);
        due("group 3", x.found(0, 6, 9, 3), 0);
        due("group 0", x.found(0, 6, 9, 0), 1);
        due("group 1", x.found(0, 6, 9, 1), 0);
        due("together", x.found(0, 6, 9, 8), 15);
        due("what is wanted ends a find", x.found(0, 3, 1, 5), 3);
        due("what is left of it", x.found(0, 3, 1, 7), 1);
        due("all pun", habitOf(x, "all pun; all rlx;"), 2);
        due("rich on lists", x.found(0, 1, 11, 6), 5);
        due("rich on lists of yes", x.found(0, 1, 11, 7), 5);
        due("and one other", x.found(0, 1, 11, 2), 1);
        due("three finds", habitOf(x, "find xxy 1; all rly; all pln;"), 3);
        due("then fewer", habitOf(x, "find xxn 1;"), 1);
        due("the third is forgotten", x.found(0, 6, 6, 4), 0);
        due("the second too", x.found(0, 6, 6, 7), 0);
        due("an empty land", x.found(1, 50, 50, 8), 0);
        due("land -1", x.found(-1, 0, 0, 0), BAD);
        due("land 4", x.found(4, 0, 0, 0), BAD);
        due("poor -1", x.found(0, -1, 0, 0), BAD);
        due("poor 51", x.found(0, 51, 0, 0), BAD);
        due("rich -1", x.found(0, 0, -1, 0), BAD);
        due("rich 51", x.found(0, 0, 51, 0), BAD);
        due("what -1", x.found(0, 0, 0, -1), BAD);
        due("what 9", x.found(0, 0, 0, 9), BAD);
    }

    private static void weighed() {
        about("10 weighed");
        PostedAsks x = settled(1, 3, 3, 6, 2);
        due("habit", habitOf(x, "find pxy 1; all rxy;"), 2);
        // poor: 1 yes of 2, 6 of 14; rich: 2 yes of 3, 8 of 14: 3/14 + 16/42 = 25/42
        due("upper", x.weighed(1, 2, 3, 0), 25);
        due("lower", x.weighed(1, 2, 3, 1), 42);
        due("no poor met", x.weighed(1, 0, 3, 0), NO);
        due("no rich met", x.weighed(1, 3, 0, 1), NO);
        due("an empty land", x.weighed(0, 3, 3, 0), NO);
        PostedAsks poor = settled(3, 1, 3);
        due("poor alone", poor.weighed(3, 4, 0, 0), 3);
        due("poor alone", poor.weighed(3, 4, 50, 1), 4);
        due("none met", poor.weighed(3, 0, 50, 1), NO);
        PostedAsks one = settled(0, 1, 0, 0, 3);
        due("one poor, three rich", one.weighed(0, 1, 3, 0), 3);
        due("one poor counts", one.weighed(0, 1, 3, 1), 4);
        due("one poor not met", one.weighed(0, 0, 3, 0), NO);
        PostedAsks rich = settled(3, 0, 0, 0, 0, 0, 0, 4);
        due("rich alone, 0", rich.weighed(3, 0, 4, 0), 0);
        due("by 1", rich.weighed(3, 0, 4, 1), 1);
        due("what -1", rich.weighed(3, 0, 4, -1), NO);
        due("what 2", rich.weighed(3, 0, 4, 2), NO);
        due("land 4", rich.weighed(4, 0, 4, 0), NO);
        due("poor 51", rich.weighed(3, 51, 4, 0), NO);
        due("rich 51", rich.weighed(3, 0, 51, 0), NO);
        due("rich -1", rich.weighed(3, 0, -1, 0), NO);
    }

    private static void mends() {
        about("11 mends");
        PostedAsks x = settled(0, 10, 0, 0, 10);
        due("half and half", x.mends(0, 5, 5), 0);
        due("too many rich", x.mends(0, 1, 9), 1);
        due("too many poor", x.mends(0, 9, 1), 1);
        due("no poor", x.mends(0, 0, 9), NONE);
        due("no rich", x.mends(0, 9, 0), NONE);
        due("nobody", x.mends(0, 0, 0), NONE);
        due("an empty land", x.mends(1, 5, 5), NONE);
        due("one person", settled(1, 0, 1).mends(1, 1, 0), 0);
        // TRUTH 3/4; found: 1 poor of no, 3 rich, 2 of them of yes: plain 1/2; weighed 1/12 less than 2/3
        PostedAsks below = settled(1, 1, 0, 1, 6);
        due("habit", habitOf(below, "find rxn 1;"), 1);
        due("both below TRUTH, weighed nearer", below.mends(1, 1, 3), 1);
        // TRUTH 5/8; found: 2 poor of no, 2 rich of yes: plain 1/2; weighed 1/4
        settle(below, 3, 3, 3, 0, 2);
        due("habit", habitOf(below, "all pxn;"), 1);
        due("both below TRUTH, plain nearer", below.mends(3, 2, 2), -1);
        // TRUTH 3/8; found: 2 poor of yes, 2 rich of no: plain 1/2; weighed 6/8
        PostedAsks y = settled(2, 3, 3, 2);
        due("habit", habitOf(y, "all pxy;"), 1);
        due("plain is nearer", y.mends(2, 2, 2), -1);
        due("land -1", y.mends(-1, 2, 2), NONE);
        due("land 4", y.mends(4, 2, 2), NONE);
        due("poor 51", y.mends(2, 51, 2), NONE);
        due("poor -1", y.mends(2, -1, 2), NONE);
        due("rich 51", y.mends(2, 2, 51), NONE);
    }

    private static void ways() {
        about("12 ways");
        PostedAsks x = new PostedAsks();
        due("one of three", x.ways(3, 1, 1, 33, 0), 0);
        due("a third away", x.ways(3, 1, 1, 34, 0), 2);
        due("two thirds, nearly", x.ways(3, 1, 1, 66, 0), 2);
        due("two thirds", x.ways(3, 1, 1, 67, 0), 3);
        due("just a quarter away", x.ways(4, 1, 1, 25, 0), 3);
        due("not quite", x.ways(4, 1, 1, 24, 0), 0);
        due("all drawn", x.ways(50, 17, 50, 0, 0), 1);
        due("one of one", x.ways(1, 1, 1, 0, 0), 1);
        due("none of one", x.ways(1, 0, 1, 0, 0), 1);
        due("nobody of yes", x.ways(50, 0, 10, 0, 0), 10272278170L);
        due("everybody", x.ways(50, 50, 10, 0, 1), 10272278170L);
        due("the most", x.ways(50, 25, 25, 100, 0), 126410606437752L);
        due("n 0", x.ways(0, 0, 0, 0, 0), NO);
        due("c above n", x.ways(5, 6, 1, 0, 0), NO);
        due("c -1", x.ways(5, -1, 1, 0, 0), NO);
        due("k 0", x.ways(5, 1, 0, 0, 0), NO);
        due("k above n", x.ways(5, 1, 6, 0, 0), NO);
        due("d -1", x.ways(5, 1, 1, -1, 0), NO);
        due("d 101", x.ways(5, 1, 1, 101, 0), NO);
        due("what -1", x.ways(5, 1, 1, 1, -1), NO);
        due("what 2", x.ways(5, 1, 1, 1, 2), NO);
    }

    private static void few() {
        about("13 few");
        PostedAsks x = new PostedAsks();
        due("nobody of yes", x.few(50, 0, 0, 100), 1);
        due("half, just", x.few(2, 1, 0, 1), 2);
        due("half, near", x.few(2, 1, 50, 100), 1);
        // of 2 drawn among 4 with 2 of yes 4 in 6 ways are just right: 66.67 hundredths
        due("66", x.few(4, 2, 0, 66), 2);
        due("67", x.few(4, 2, 0, 67), 4);
        // 1 drawn of 4 with 1 of yes: 3 of 4 ways are a quarter away
        due("75", x.few(4, 1, 25, 75), 1);
        due("76", x.few(4, 1, 25, 76), 2);
        due("n 0", x.few(0, 0, 0, 1), BAD);
        due("n 51", x.few(51, 0, 0, 1), BAD);
        due("c above n", x.few(5, 6, 0, 1), BAD);
        due("c -1", x.few(5, -1, 0, 1), BAD);
        due("d 101", x.few(5, 1, 101, 1), BAD);
        due("d -1", x.few(5, 1, -1, 1), BAD);
        due("h 0", x.few(5, 1, 0, 0), BAD);
        due("h 101", x.few(5, 1, 0, 101), BAD);
    }

    private static void may() {
        about("14 may");
        PostedAsks x = new PostedAsks();
        // 1 of 2 drawn of 3: c = 1 in 2 ways, c = 2 in 2 ways
        due("of several the least", x.may(3, 2, 1, 0), 1);
        due("least", x.may(3, 2, 1, 1), 1);
        due("most", x.may(3, 2, 1, 2), 2);
        due("none of one drawn", x.may(20, 1, 0, 0), 0);
        due("c 18 in 2 of 20 ways: a tenth", x.may(20, 1, 0, 2), 18);
        due("c 2 in 2 of 20 ways", x.may(20, 1, 1, 1), 2);
        due("likeliest of all", x.may(20, 1, 1, 0), 20);
        due("c 2 in 2 of 21 ways: too few", x.may(21, 1, 1, 1), 3);
        due("c 0 in 5 of 5 ways", x.may(5, 1, 0, 1), 0);
        due("just 1", x.may(50, 50, 1, 2), 1);
        due("just 0", x.may(50, 50, 0, 2), 0);
        due("just all", x.may(50, 50, 50, 1), 50);
        due("all drawn", x.may(9, 9, 4, 2), 4);
        due("1 of 1", x.may(1, 1, 1, 1), 1);
        due("n 0", x.may(0, 0, 0, 0), BAD);
        due("n 51", x.may(51, 1, 1, 0), BAD);
        due("k 0", x.may(5, 0, 0, 0), BAD);
        due("k above n", x.may(5, 6, 0, 0), BAD);
        due("y above k", x.may(5, 2, 3, 0), BAD);
        due("y -1", x.may(5, 2, -1, 0), BAD);
        due("what -1", x.may(5, 2, 1, -1), BAD);
        due("what 3", x.may(5, 2, 1, 3), BAD);
    }

    private static void shadow() {
        about("15 shadow");
        PostedAsks x = settled(0, 20, 0, 0, 0, 4, 8);
        x.rate(5, 50);
        // 8 are back, 4 of yes
        due("just", x.shadow(0, 2, 0, 0), 16);
        due("one drawn", x.shadow(0, 1, 50, 1), 8);
        due("all", x.shadow(0, 2, 0, 1), 28);
        due("near", x.shadow(0, 2, 50, 0), 28);
        due("all of them", x.shadow(0, 8, 0, 0), 1);
        due("k 9", x.shadow(0, 9, 0, 0), NO);
        due("k 0", x.shadow(0, 0, 0, 0), NO);
        due("d -1", x.shadow(0, 1, -1, 0), NO);
        due("d 101", x.shadow(0, 1, 101, 0), NO);
        due("what 2", x.shadow(0, 1, 0, 2), NO);
        due("what -1", x.shadow(0, 1, 0, -1), NO);
        due("nobody back", x.shadow(1, 1, 0, 0), NO);
        due("land 4", x.shadow(4, 1, 0, 0), NO);
        due("land -1", x.shadow(-1, 1, 0, 0), NO);
    }

    private static void week() {
        about("16 week");
        PostedAsks x = new PostedAsks();
        due("-1", x.week(-1), BAD);
        due("1001", x.week(1001), BAD);
        for (int i = 1; i <= 60; i++) {
            due("week " + i, x.week(i % 2 * 1000), i);
        }
        due("61st", x.week(5), FULL);
        due("BAD ahead of FULL", x.week(1001), BAD);
        due("weeks", x.count(2), 60);
    }

    private static void turn() {
        about("17 turn");
        PostedAsks x = new PostedAsks();
        due("no weeks", x.turn(1, 0), NONE);
        x.week(100);
        due("one week", x.turn(1, 1), NONE);
        x.week(300);
        x.week(250);
        x.week(260);
        due("rise by 1", x.turn(1, 0), 200);
        due("fall by 1", x.turn(1, 1), 50);
        due("rise by 2", x.turn(2, 0), 150);
        due("fall by 2", x.turn(2, 1), 40);
        due("fall by 3, 0 at least", x.turn(3, 1), 0);
        due("by 4", x.turn(4, 1), NONE);
        due("by 60", x.turn(60, 0), NONE);
        due("by 0", x.turn(0, 0), BAD);
        due("by 61", x.turn(61, 0), BAD);
        due("what -1", x.turn(1, -1), BAD);
        due("what 2", x.turn(1, 2), BAD);
        for (int i = 4; i < 60; i++) {
            x.week(i);
        }
        due("by 59", x.turn(59, 1), 41);
        due("by 60", x.turn(60, 1), NONE);
    }

    private static void stops() {
        about("18 stops");
        PostedAsks x = new PostedAsks();
        due("no weeks", x.stops(), 0);
        x.week(600);
        due("one", x.stops(), 0);
        x.week(500);
        due("500 less 100", x.stops(), 0);
        x.week(600);
        due("600 less 100 stays; by 2: 600 less 0", x.stops(), 2);
        x.week(599);
        due("599 less 100", x.stops(), 0);
        x.week(499);
        due("499 and 100", x.stops(), 0);
        PostedAsks low = new PostedAsks();
        PostedAsks half = new PostedAsks();
        half.week(400);
        half.week(500);
        due("500 is with more", half.stops(), 1);
        low.week(399);
        low.week(499);
        low.week(399);
        due("399 and 100 is 499", low.stops(), 2);
        low.week(400);
        due("400 and 100 is 500", low.stops(), 0);
        PostedAsks later = new PostedAsks();
        later.week(700);
        later.week(660);
        later.week(610);
        later.week(590);
        // FALL by 1 is 50, by 2 90, by 3 110: too far
        due("up to the first that fails", later.stops(), 2);
    }

    private static void house() {
        about("19 house");
        PostedAsks x = new PostedAsks();
        due("told -1", x.house(-1, 0, 0), BAD);
        due("told 1001", x.house(1001, 0, 0), BAD);
        due("span -1", x.house(0, -1, 0), BAD);
        due("span 1001", x.house(0, 1001, 0), BAD);
        due("counted -1", x.house(0, 0, -1), BAD);
        due("counted 1001", x.house(0, 0, 1001), BAD);
        for (int i = 1; i <= 24; i++) {
            due("row " + i, x.house(1000, 0, 1000 - i), i);
        }
        due("25th", x.house(0, 0, 0), FULL);
        due("BAD ahead of FULL", x.house(0, 0, 1001), BAD);
        due("rows", x.count(3), 24);
        due("held", x.held(20), 20);
    }

    private static void held() {
        about("20 held");
        PostedAsks x = new PostedAsks();
        x.house(500, 10, 510);
        x.house(500, 10, 489);
        x.house(0, 1000, 1000);
        x.house(0, 0, 1000);
        due("0", x.held(0), 2);
        due("1", x.held(1), 3);
        due("999", x.held(999), 3);
        due("1000", x.held(1000), 4);
        due("-1", x.held(-1), BAD);
        due("1001", x.held(1001), BAD);
    }

    private static void wider() {
        about("21 wider");
        PostedAsks x = new PostedAsks();
        due("none needed", x.wider(0), 0);
        due("no rows", x.wider(1), NONE);
        due("24 of none", x.wider(24), NONE);
        x.house(0, 0, 1000);
        x.house(500, 5, 530);
        due("the least of two", x.wider(1), 25);
        x.house(500, 50, 480);
        x.house(500, 5, 470);
        due("0", x.wider(0), 0);
        due("1", x.wider(1), 0);
        due("2", x.wider(2), 25);
        due("3", x.wider(3), 25);
        due("4", x.wider(4), 1000);
        due("5", x.wider(5), NONE);
        due("-1", x.wider(-1), BAD);
        due("25", x.wider(25), BAD);
    }

    private static void price() {
        about("22 price");
        PostedAsks x = new PostedAsks();
        due("P", x.price(0, 0), 1);
        due("P 99", x.price(0, 99), 0);
        due("Q", x.price(1, 99), 5);
        due("Q 0", x.price(1, 0), 99);
        due("H", x.price(2, 1), 90);
        due("H 100", x.price(2, 100), 1);
        due("P 100", x.price(0, 100), BAD);
        due("P -1", x.price(0, -1), BAD);
        due("Q 100", x.price(1, 100), BAD);
        due("Q -1", x.price(1, -1), BAD);
        due("H 0", x.price(2, 0), BAD);
        due("H 101", x.price(2, 101), BAD);
        due("what -1", x.price(-1, 1), BAD);
        due("what 3", x.price(3, 1), BAD);
        due("P kept", x.price(0, 1), 99);
        due("Q kept", x.price(1, 1), 0);
        due("H kept", x.price(2, 1), 100);
    }

    private static void error() {
        about("23 error");
        PostedAsks x = settled(0, 2, 0, 0, 0, 0, 1);
        // SHARE 1, TRUTH a third
        due("66.67 up", x.error(0, 0), 67);
        due("nobody, POSTED", x.error(1, 0), STATE);
        due("nobody, k above N", x.error(1, 1), BAD);
        due("k -1", x.error(0, -1), BAD);
        due("k 4", x.error(0, 4), BAD);
        due("land 4", x.error(4, 0), BAD);
        due("land -1", x.error(-1, 0), BAD);
        due("all drawn", x.error(0, 3), 0);
        due("1 drawn, 90", x.error(0, 1), 67);
        x.price(2, 66);
        due("1 drawn, 66", x.error(0, 1), 34);
        x.price(2, 67);
        due("1 drawn, 67", x.error(0, 1), 67);
        x.rate(5, 99);
        due("none back", x.error(0, 0), 101);
        PostedAsks y = settled(2, 0, 0, 0, 0, 2, 2);
        due("LEAN 0", y.error(2, 0), 0);
        y.rate(5, 0);
        due("just 50", y.error(2, 0), 50);
        PostedAsks one = settled(3, 49, 0, 0, 0, 0, 1);
        due("98", one.error(3, 0), 98);
        one.price(2, 100);
        due("surely 98", one.error(3, 1), 98);
    }

    private static void best() {
        about("24 best");
        PostedAsks x = new PostedAsks();
        due("nobody", x.best(5, 0), STATE);
        due("BAD ahead of STATE", x.best(5, 2), BAD);
        due("coin -1", x.best(-1, 0), BAD);
        due("coin 10000", x.best(10000, 0), BAD);
        due("what -1", x.best(5, -1), BAD);
        settle(x, 0, 2, 2, 0, 0, 1, 1);
        // POSTED costs 2 and leans 0
        due("POSTED", x.best(2, 0), 0);
        due("POSTED's error", x.best(2, 1), 0);
        due("too little", x.best(1, 0), NONE);
        due("too little", x.best(1, 1), NONE);
        due("POSTED ahead of drawn", x.best(9999, 0), 0);
        x.rate(5, 0);
        due("POSTED leans by a half; 1 drawn too", x.best(5, 0), 0);
        due("its error", x.best(5, 1), 50);
        due("all six", x.best(30, 0), 6);
        due("no error", x.best(30, 1), 0);
        due("29 is for five", x.best(29, 1), x.error(0, 5));
        due("five of six leave the least", x.error(0, 5), 10);
        settle(x, 3, 1, 0, 0, 0, 0, 1, 0, 0);
        // land 3: nobody is back
        due("POSTED fails in one land", x.best(4, 1), 101);
        // land 0 errs by 50 with 1 drawn and with 2 (9 of 15 ways are just right), land 3 by 50 and by 0
        due("less k ahead of more", x.best(9999, 0), 1);
        due("the greater error of two lands", x.best(9999, 1), 50);
        x.price(2, 60);
        due("2 drawn are right in both", x.best(9999, 0), 2);
        x.price(2, 61);
        due("3 are more than the least N", x.best(9999, 0), 1);
        PostedAsks y = settled(1, 0, 0, 0, 0, 3, 3);
        settle(y, 2, 0, 0, 0, 0, 2, 2);
        due("the coin is for each land", y.best(6, 0), 0);
        due("the dearest counts", y.best(5, 0), 1);
        y.price(1, 0);
        y.price(0, 2);
        // 3 drawn are a sixth away in 18 of 20 ways, and in all; 4 drawn a quarter in land 1
        due("free lots", y.best(0, 0), 3);
        due("their error", y.best(0, 1), 17);
        PostedAsks off = settled(1, 1, 1);
        due("no cards cost nothing", off.best(0, 0), 0);
        due("and tell nothing", off.best(0, 1), 101);
        due("1 drawn is better", off.best(5, 0), 1);
        PostedAsks alone = settled(2, 0, 1);
        due("one person is a land", alone.best(5, 0), 1);
        due("drawn without error", alone.best(5, 1), 0);
        settle(alone, 3, 0, 5, 0, 0, 5);
        due("1 is the least N", alone.best(9999, 0), 1);
        settle(alone, 0, 0, 0, 0, 0, 0, 0, 9, 9);
        due("the lands' greatest error", alone.best(9999, 1), 50);
    }

    private static void cost() {
        about("25 cost");
        PostedAsks x = settled(0, 4, 0, 0, 1, 3, 0, 0, 3);
        due("finds", habitOf(x, "all xxx; all rxx; find xxx 3;"), 3);
        x.week(1);
        x.week(2);
        x.price(0, 3);
        x.price(1, 7);
        due("ASKING", x.cost(0, 0), 2);
        due("POSTED", x.cost(1, 0), 20);
        due("QUOTA", x.cost(2, 0), 5);
        due("LOT", x.cost(3, 0), 79);
        due("CALLED", x.cost(4, 0), 118);
        due("LATE", x.cost(5, 0), 4);
        due("SHADOW", x.cost(6, 0), 2);
        x.land(0, 4, 4);
        due("SHADOW up", x.cost(6, 0), 3);
        due("an empty land's POSTED", x.cost(1, 3), 2);
        due("its CALLED", x.cost(4, 3), 3);
        due("its SHADOW", x.cost(6, 3), 1);
        due("kind -1", x.cost(-1, 0), BAD);
        due("kind 7", x.cost(7, 0), BAD);
        due("land -1", x.cost(0, -1), BAD);
        due("land 4", x.cost(0, 4), BAD);
    }

    private static void begin() {
        about("26 begin");
        PostedAsks x = settled(0, 1, 2, 3, 4, 5, 6, 7, 8);
        settle(x, 3, 4);
        x.rate(5, 50);
        x.price(0, 9);
        due("finds", habitOf(x, "all xxx;"), 1);
        x.week(500);
        x.house(1, 2, 3);
        x.type(7, 3);
        x.cost(0, 0);
        due("persons", x.begin(), 40);
        due("nobody", x.count(0), 0);
        due("habit stays", x.count(1), 1);
        due("no weeks", x.count(2), 0);
        due("no house", x.count(3), 0);
        due("text stays", x.count(4), 3);
        due("trace stays", x.trace(), 1);
        due("rate stays", x.rate(5, 50), 50);
        due("price stays", x.price(0, 9), 9);
        due("held", x.held(1000), 0);
        due("again", x.begin(), 0);
        due("a week anew", x.week(3), 1);
        due("a row anew", x.house(3, 3, 3), 1);
        due("a count was 0", x.land(0, 7, 50), 0);
    }

    private static void count() {
        about("27 count");
        PostedAsks x = settled(0, 1, 2);
        settle(x, 1, 50);
        due("finds", habitOf(x, "all xxx;all xxx;"), 2);
        x.week(1);
        x.house(1, 1, 1);
        x.house(1, 1, 1);
        x.type(1, 7);
        due("persons", x.count(0), 53);
        due("FINDS", x.count(1), 2);
        due("weeks", x.count(2), 1);
        due("rows", x.count(3), 2);
        due("bytes", x.count(4), 7);
        due("-1", x.count(-1), BAD);
        due("5", x.count(5), BAD);
    }

    private static void trace() {
        about("28 trace");
        long[] want = {1, 11, 101, 1001, 11001, 100001, 1000011};
        for (int kind = 0; kind < 7; kind++) {
            PostedAsks x = settled(0, 1, 0, 0, 0, 1);
            x.cost(kind, 0);
            due("kind " + kind, x.trace(), want[kind]);
            x.cost(kind, 3);
            due("twice", x.trace(), 2 * want[kind]);
            x.cost(kind, 4);
            x.cost(7, 0);
            x.cost(-1, 0);
            due("refused", x.trace(), 2 * want[kind]);
            x.best(100, 0);
            x.posted(0, 0);
            x.shadow(0, 1, 1, 0);
            due("other calls", x.trace(), 2 * want[kind]);
        }
    }
}
