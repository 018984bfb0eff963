import java.math.BigInteger;

/** Each sentence of the document that names an edge of lots (promises 12 to 15). */
public final class LotEdgesTest extends Refusals {
    public static void main(String[] args) {
        waysBounds();
        waysNear();
        allWays();
        fewBounds();
        fewEnough();
        mayBounds();
        likeliest();
        aTenth();
        shadowBounds();
        shadowOfBack();
        end("LotEdgesTest");
    }

    // ---- ways

    private static void waysBounds() {
        about("12: n persons (1 .. 50)");
        PostedAsks x = new PostedAsks();
        due("n 1", x.ways(1, 0, 1, 0, 1), 1);
        due("n 50", x.ways(50, 0, 1, 0, 1), 50);
        outside("n", 1, 50, (y, v) -> y.ways(v, 0, 1, 0, 0), NO);
        about("12: c of yes (0 .. n)");
        for (int n : new int[] {1, 2, 7, 49, 50}) {
            int persons = n;
            due("c 0", x.ways(n, 0, 1, 0, 0), n);
            due("c n", x.ways(n, n, 1, 0, 0), n);
            outside("c of " + n, 0, n, (y, v) -> y.ways(persons, v, 1, 0, 0), NO);
        }
        about("12: k drawn (1 .. n)");
        for (int n : new int[] {1, 2, 7, 49, 50}) {
            int persons = n;
            due("k 1", x.ways(n, 1, 1, 100, 0), n);
            due("k n", x.ways(n, 1, n, 0, 0), 1);
            outside("k of " + n, 1, n, (y, v) -> y.ways(persons, 1, v, 0, 0), NO);
            outside("k of " + n + ", all", 1, n, (y, v) -> y.ways(persons, 1, v, 0, 1), NO);
        }
        about("12: d hundredths (0 .. 100)");
        due("d 0", x.ways(50, 25, 1, 0, 0), 0);
        due("d 100", x.ways(50, 25, 1, 100, 0), 50);
        outside("d", 0, 100, (y, v) -> y.ways(50, 25, 1, v, 0), NO);
        outside("d, all", 0, 100, (y, v) -> y.ways(50, 25, 1, v, 1), NO);
        about("12: what 0, 1");
        due("WAYS", x.ways(2, 1, 1, 0, 0), 0);
        due("ALL", x.ways(2, 1, 1, 0, 1), 2);
        outside("what", 0, 1, (y, v) -> y.ways(2, 1, 1, 0, v), NO);
    }

    private static void waysNear() {
        about("12: no more than d hundredths from c by n");
        PostedAsks x = new PostedAsks();
        // Of 50 with 1 of yes: one of no is 2 hundredths away, the one of yes 98.
        due("1", x.ways(50, 1, 1, 1, 0), 0);
        due("2", x.ways(50, 1, 1, 2, 0), 49);
        due("97", x.ways(50, 1, 1, 97, 0), 49);
        due("98", x.ways(50, 1, 1, 98, 0), 50);
        // With 49 of yes: one of yes is 2 hundredths away, the one of no 98.
        due("1 below", x.ways(50, 49, 1, 1, 0), 0);
        due("2 below", x.ways(50, 49, 1, 2, 0), 49);
        due("97 below", x.ways(50, 49, 1, 97, 0), 49);
        due("98 below", x.ways(50, 49, 1, 98, 0), 50);
        // Of 3 with 1 of yes: a third and two thirds are no whole hundredths.
        due("33", x.ways(3, 1, 1, 33, 0), 0);
        due("34", x.ways(3, 1, 1, 34, 0), 2);
        due("66", x.ways(3, 1, 1, 66, 0), 2);
        due("67", x.ways(3, 1, 1, 67, 0), 3);
        // 25/49 is less than a hundredth from 26/50: 0.0098.
        due("less than 1", x.ways(50, 26, 49, 0, 0), 0);
        due("1 for 0.98", x.ways(50, 26, 49, 1, 0), 26);
        // 26/49 is 1.06 hundredths from 26/50.
        due("2 for 1.06", x.ways(50, 26, 49, 2, 0), 50);
        about("12: nobody or everybody of yes");
        for (int k = 1; k <= 50; k++) {
            long all = x.ways(50, 0, k, 100, 1);
            due("none", x.ways(50, 0, k, 0, 0), all);
            due("all", x.ways(50, 50, k, 0, 0), all);
        }
    }

    private static void allWays() {
        about("12: ALL ways, up to the most");
        BigInteger all = BigInteger.ONE;
        PostedAsks x = new PostedAsks();
        for (int k = 1; k <= 50; k++) {
            all = all.multiply(BigInteger.valueOf(51 - k)).divide(BigInteger.valueOf(k));
            due("of 50 " + k, x.ways(50, 17, k, 0, 1), all.longValueExact());
            due("at 100 hundredths", x.ways(50, 17, k, 100, 0), all.longValueExact());
        }
        due("the most", x.ways(50, 25, 25, 100, 0), 126410606437752L);
        // 12 of the 25 of yes and 12 of the 25 of no.
        due("just half", x.ways(50, 25, 24, 0, 0), 5200300L * 5200300L);
    }

    // ---- few

    private static void fewBounds() {
        about("13: n (1 .. 50), c (0 .. n), d (0 .. 100), h (1 .. 100)");
        PostedAsks x = new PostedAsks();
        due("n 1", x.few(1, 0, 0, 1), 1);
        due("n 50", x.few(50, 1, 0, 100), 50);
        outside("n", 1, 50, (y, v) -> y.few(v, 0, 0, 1), BAD);
        for (int n : new int[] {1, 2, 49, 50}) {
            int persons = n;
            due("c 0 of " + n, x.few(n, 0, 0, 100), 1);
            due("c n of " + n, x.few(n, n, 0, 100), 1);
            outside("c of " + n, 0, n, (y, v) -> y.few(persons, v, 0, 1), BAD);
        }
        due("d 0", x.few(50, 25, 0, 1), 2);
        due("d 100", x.few(50, 25, 100, 100), 1);
        outside("d", 0, 100, (y, v) -> y.few(50, 25, v, 1), BAD);
        due("h 1", x.few(50, 25, 49, 1), 2);
        due("h 100", x.few(50, 25, 50, 100), 1);
        outside("h", 1, 100, (y, v) -> y.few(50, 25, 0, v), BAD);
    }

    private static void fewEnough() {
        about("13: at least h hundredths of ALL");
        PostedAsks x = new PostedAsks();
        // 1 drawn of 50 with 1 of yes: 49 of 50 ways are 2 hundredths away.
        due("97", x.few(50, 1, 2, 97), 1);
        due("98", x.few(50, 1, 2, 98), 1);
        // Within 1 hundredth the one of yes must be drawn, in k of 50 ways.
        due("98, nearer", x.few(50, 1, 1, 98), 49);
        due("99, nearer", x.few(50, 1, 1, 99), 50);
        // 1 drawn of 4 with 1 of yes: 3 of 4 ways are a quarter away; 2 drawn: all are.
        due("75", x.few(4, 1, 25, 75), 1);
        due("76", x.few(4, 1, 25, 76), 2);
        // 2 drawn of 4 with 2 of yes are right in 4 of 6 ways.
        due("66", x.few(4, 2, 0, 66), 2);
        due("67", x.few(4, 2, 0, 67), 4);
        // No way at all is less than 1 hundredth.
        due("none of 1 drawn", x.few(2, 1, 49, 1), 2);
        about("13: all n always are enough");
        for (int n = 2; n <= 50; n++) {
            due("just right, surely, of " + n, x.few(n, 1, 0, 100), n);
            due("of yes but one of " + n, x.few(n, n - 1, 0, 100), n);
        }
    }

    // ---- may

    private static void mayBounds() {
        about("14: n (1 .. 50), k (1 .. n), y (0 .. k), what 0 .. 2");
        PostedAsks x = new PostedAsks();
        for (int what = 0; what < 3; what++) {
            int asked = what;
            due("n 1", x.may(1, 1, 1, what), 1);
            due("n 50", x.may(50, 50, 50, what), 50);
            outside("n", 1, 50, (y, v) -> y.may(v, 1, 0, asked), BAD);
            for (int n : new int[] {1, 2, 49, 50}) {
                int persons = n;
                due("k n", x.may(n, n, 1, what), 1);
                outside("k of " + n, 1, n, (y, v) -> y.may(persons, v, 0, asked), BAD);
                outside("y of all " + n, 0, n, (y, v) -> y.may(persons, persons, v, asked), BAD);
            }
            outside("y of 1", 0, 1, (y, v) -> y.may(50, 1, v, asked), BAD);
            outside("y of 7", 0, 7, (y, v) -> y.may(50, 7, v, asked), BAD);
        }
        due("k 1, y 0", x.may(2, 1, 0, 0), 0);
        due("k 1, y 1", x.may(2, 1, 1, 0), 2);
        outside("what", 0, 2, (y, v) -> y.may(2, 1, 1, v), BAD);
    }

    private static void likeliest() {
        about("14: LIKELIEST, of several the least");
        PostedAsks x = new PostedAsks();
        due("2 and 2 ways", x.may(3, 2, 1, 0), 1);
        // 1 of 1 drawn of 50, in c ways: c = 50; none: c = 0.
        due("everybody", x.may(50, 1, 1, 0), 50);
        due("nobody", x.may(50, 1, 0, 0), 0);
        // 1 of 4 drawn of 10: c (10 - c)(9 - c)(8 - c) / 6: 84 by 1, 112 by 2, 105 by 3.
        due("in between", x.may(10, 4, 1, 0), 2);
        // 1 of 3 drawn of 7: c (7 - c)(6 - c) / 2: 15, 20, 18; 2 of 3: 0, 5, 12, 18, 20.
        due("below", x.may(7, 3, 1, 0), 2);
        due("above", x.may(7, 3, 2, 0), 5);
        about("14: all drawn tell all");
        for (int y = 0; y <= 50; y++) {
            due("likeliest " + y, x.may(50, 50, y, 0), y);
            due("least " + y, x.may(50, 50, y, 1), y);
            due("most " + y, x.may(50, 50, y, 2), y);
        }
    }

    private static void aTenth() {
        about("14: LEAST, MOST of c by which it comes in a tenth of these at least");
        PostedAsks x = new PostedAsks();
        // 1 of 1 drawn: c ways, n at most.
        due("2 of 20 is a tenth", x.may(20, 1, 1, 1), 2);
        due("2 of 21 is less", x.may(21, 1, 1, 1), 3);
        due("1 of 10 is a tenth", x.may(10, 1, 1, 1), 1);
        due("1 of 11 is less", x.may(11, 1, 1, 1), 2);
        due("5 of 50 is a tenth", x.may(50, 1, 1, 1), 5);
        due("5 of 49 is more", x.may(49, 1, 1, 1), 5);
        due("most is all", x.may(50, 1, 1, 2), 50);
        // 0 of 1 drawn: n - c ways.
        due("from nobody", x.may(50, 1, 0, 1), 0);
        due("2 of 20 is a tenth", x.may(20, 1, 0, 2), 18);
        due("2 of 21 is less", x.may(21, 1, 0, 2), 18);
        due("1 of 10 is a tenth", x.may(10, 1, 0, 2), 9);
        due("1 of 11 is less", x.may(11, 1, 0, 2), 9);
        about("14: no c below y, none above n less those of no");
        due("y of yes", x.may(5, 4, 2, 1), 2);
        due("one more at most", x.may(5, 4, 2, 2), 3);
    }

    // ---- shadow

    private static void shadowBounds() {
        about("15: LANDS 0 .. 3, k drawn (1 .. as many as came BACK), d 0 .. 100, what 0, 1");
        PostedAsks x = new PostedAsks();
        for (int land = 0; land < 4; land++) {
            settle(x, land, 10, 10, 0, 0, 2, 2 + land);
            due("ALL", x.shadow(land, 1, 0, 1), 4 + land);
            due("all drawn", x.shadow(land, 4 + land, 0, 0), 1);
            due("one too many", x.shadow(land, 5 + land, 0, 0), NO);
            due("none drawn", x.shadow(land, 0, 100, 0), NO);
        }
        due("d 0", x.shadow(0, 1, 0, 0), 0);
        due("d 49", x.shadow(0, 1, 49, 0), 0);
        due("d 50", x.shadow(0, 1, 50, 0), 4);
        due("d 100", x.shadow(0, 1, 100, 0), 4);
        outside("land", 0, 3, (y, v) -> y.shadow(v, 1, 0, 0), NO);
        // No state has more than 50 back, and two have somebody back.
        outside("k", 1, 50, (y, v) -> y.shadow(0, v, 0, 0), NO);
        outside("d", 0, 100, (y, v) -> y.shadow(0, 1, v, 0), NO);
        outside("d, all", 0, 100, (y, v) -> y.shadow(0, 1, v, 1), NO);
        outside("what", 0, 1, (y, v) -> y.shadow(0, 1, 0, v), NO);
    }

    private static void shadowOfBack() {
        about("15: of those who sent cards BACK");
        PostedAsks x = settled(1, 10, 10, 0, 0, 0, 10, 0, 0);
        for (int rate = 0; rate <= 100; rate++) {
            x.rate(5, rate);
            int back = rate / 10;
            due("just as many at " + rate, x.shadow(1, back, 0, 0), back == 0 ? NO : 1);
            due("one more at " + rate, x.shadow(1, back + 1, 0, 0), NO);
        }
        PostedAsks all = settled(0, 0, 0, 0, 0, 10, 10, 15, 15);
        due("50 are back", all.shadow(0, 50, 0, 0), 1);
        due("51 are not", all.shadow(0, 51, 0, 0), NO);
        due("the most ways", all.shadow(0, 25, 100, 0), 126410606437752L);
        due("nobody is back", all.shadow(1, 1, 0, 0), NO);
        about("15: no more than d hundredths from SHARE, not from TRUTH");
        // 4 are back, 1 of yes; TRUTH is 1/14.
        PostedAsks lean = settled(2, 10, 0, 0, 0, 3, 1);
        due("24", lean.shadow(2, 1, 24, 0), 0);
        due("25", lean.shadow(2, 1, 25, 0), 3);
        due("74", lean.shadow(2, 1, 74, 0), 3);
        due("75", lean.shadow(2, 1, 75, 0), 4);
    }
}
