/** Each sentence of the document that names an edge of weeks and of a house (promises 16 to 21). */
public final class WeekEdgesTest extends Refusals {
    public static void main(String[] args) {
        weekBounds();
        weeksAreFull();
        turnBounds();
        turnPairs();
        turnLeast();
        stopsWithout();
        stopsSides();
        stopsForEach();
        houseBounds();
        houseIsFull();
        heldBounds();
        heldAway();
        widerBounds();
        widerNone();
        widerLeast();
        end("WeekEdgesTest");
    }

    private static PostedAsks weeks(int... shares) {
        PostedAsks x = new PostedAsks();
        for (int i = 0; i < shares.length; i++) {
            due("week", x.week(shares[i]), i + 1);
        }
        return x;
    }

    private static PostedAsks sameWeeks(int share, int many) {
        int[] shares = new int[many];
        java.util.Arrays.fill(shares, share);
        return weeks(shares);
    }

    // ---- weeks

    private static void weekBounds() {
        about("16: shares 0 .. 1000 thousandths");
        PostedAsks x = weeks(0, 1000);
        due("from 0 to 1000", x.turn(1, 0), 1000);
        x.week(0);
        due("from 1000 to 0", x.turn(1, 1), 1000);
        outside("share", 0, 1000, PostedAsks::week, BAD);
    }

    private static void weeksAreFull() {
        about("16: 60 at most");
        PostedAsks x = sameWeeks(500, 59);
        due("the 60th", x.week(700), 60);
        due("the 61st", x.week(900), FULL);
        due("weeks", x.count(2), 60);
        due("the 60th stays the last", x.turn(59, 0), 200);
        for (int v : new int[] {0, 500, 1000}) {
            refusedIn(Refusals::full, "a 61st of " + v, y -> y.week(v), FULL);
        }
        about("16: how many there are, anew behind begin");
        x.begin();
        due("the first", x.week(1000), 1);
        for (int i = 2; i <= 60; i++) {
            due("week " + i, x.week(1000), i);
        }
        due("the 61st", x.week(1000), FULL);
        due("no share from before", x.turn(59, 0), 0);
    }

    // ---- turn

    private static void turnBounds() {
        about("17: w 1 .. 60, what 0, 1");
        PostedAsks x = new PostedAsks();
        for (int i = 0; i < 60; i++) {
            x.week(i * 10);
        }
        for (int w = 1; w < 60; w++) {
            due("rise by " + w, x.turn(w, 0), 10 * w);
            due("fall by " + w, x.turn(w, 1), 0);
        }
        due("by 60 there is no pair", x.turn(60, 0), NONE);
        due("nor of falls", x.turn(60, 1), NONE);
        outside("w", 1, 60, (y, v) -> y.turn(v, 0), BAD);
        outside("w, fall", 1, 60, (y, v) -> y.turn(v, 1), BAD);
        outside("what", 0, 1, (y, v) -> y.turn(1, v), BAD);
        refused("both", y -> y.turn(0, 2), BAD);
    }

    private static void turnPairs() {
        about("17: by more weeks than there are pairs of: NONE");
        PostedAsks x = new PostedAsks();
        for (int many = 0; many <= 60; many++) {
            int last = Math.max(1, many - 1);
            due("the last pair of " + many, x.turn(last, 0), many < 2 ? NONE : many - 1);
            due("it fell by", x.turn(last, 1), many < 2 ? NONE : 0);
            if (many > 0 && many < 60) {
                due("none by " + many, x.turn(many, 0), NONE);
                due("none falls by " + many, x.turn(many, 1), NONE);
            }
            x.week(many);
        }
        PostedAsks one = weeks(400);
        due("one week", one.turn(1, 0), NONE);
        due("by 60", one.turn(60, 1), NONE);
    }

    private static void turnLeast() {
        about("17: the greatest, 0 at least");
        PostedAsks down = weeks(900, 600, 200);
        due("no rise", down.turn(1, 0), 0);
        due("no rise by 2", down.turn(2, 0), 0);
        due("the greater fall", down.turn(1, 1), 400);
        due("the fall by 2", down.turn(2, 1), 700);
        PostedAsks up = weeks(200, 600, 900);
        due("no fall", up.turn(1, 1), 0);
        due("no fall by 2", up.turn(2, 1), 0);
        due("the first pair", up.turn(1, 0), 400);
        PostedAsks even = weeks(500, 500);
        due("neither", even.turn(1, 0), 0);
        due("nor", even.turn(1, 1), 0);
        PostedAsks least = weeks(500, 501, 499);
        due("by 1", least.turn(1, 0), 1);
        due("by 2", least.turn(1, 1), 2);
    }

    // ---- stops

    private static void stopsWithout() {
        about("18: 0 without weeks");
        due("new", new PostedAsks().stops(), 0);
        PostedAsks begun = sameWeeks(600, 5);
        due("five", begun.stops(), 4);
        begun.begin();
        due("none any more", begun.stops(), 0);
        about("18: where these are NONE it does not stay");
        for (int share : new int[] {0, 499, 500, 1000}) {
            due("one week of " + share, weeks(share).stops(), 0);
            due("two weeks", weeks(share, share).stops(), 1);
            due("59 weeks", sameWeeks(share, 59).stops(), 58);
            due("60 weeks", sameWeeks(share, 60).stops(), 59);
        }
    }

    private static void stopsSides() {
        about("18: 500 and more, or below");
        due("500 less 0", weeks(400, 500).stops(), 1);
        due("499 and 0", weeks(600, 499).stops(), 1);
        // The last share is as before but for one turn; by 2 weeks there is none.
        due("500 less 1", weeks(501, 500, 500).stops(), 0);
        due("501 less 1", weeks(502, 501, 501).stops(), 2);
        due("502 less 1", weeks(503, 502, 502).stops(), 2);
        due("499 and 1", weeks(498, 499, 499).stops(), 0);
        due("498 and 1", weeks(497, 498, 498).stops(), 2);
        due("a fall is nothing to the lower side", weeks(1000, 0, 0).stops(), 2);
        due("a rise is nothing to the upper side", weeks(0, 1000, 1000).stops(), 2);
        due("1000 less 1000", weeks(1000, 0, 1000).stops(), 0);
        due("0 and 1000", weeks(0, 1000, 0).stops(), 0);
        due("1000 less 500", weeks(1000, 500, 1000).stops(), 2);
        due("1000 less 501", weeks(1000, 499, 1000).stops(), 0);
        due("0 and 499", weeks(0, 499, 0).stops(), 2);
        due("0 and 500", weeks(0, 500, 0).stops(), 0);
    }

    private static void stopsForEach() {
        about("18: for each of 1 .. w weeks");
        // The last is 540: by 1 it falls 36 and by 3 nothing, by 2 it falls 40, then 41.
        due("by 2 just", weeks(540, 580, 544, 540).stops(), 3);
        due("not by 2, so not by 3", weeks(540, 581, 545, 540).stops(), 1);
        // The last is 460: by 2 it rises 39, then 40.
        due("by 2 just, below", weeks(460, 421, 457, 460).stops(), 3);
        due("not by 2, below", weeks(460, 420, 456, 460).stops(), 1);
        due("not by 1", weeks(540, 590, 540, 540).stops(), 0);
    }

    // ---- the house

    private static void houseBounds() {
        about("19: a share, a span, a count 0 .. 1000 each");
        PostedAsks x = new PostedAsks();
        due("all 0", x.house(0, 0, 0), 1);
        due("all 1000", x.house(1000, 1000, 1000), 2);
        due("0, 1000, 1000", x.house(0, 1000, 1000), 3);
        due("1000, 1000, 0", x.house(1000, 1000, 0), 4);
        due("all are held", x.held(0), 4);
        outside("told", 0, 1000, (y, v) -> y.house(v, 5, 5), BAD);
        outside("span", 0, 1000, (y, v) -> y.house(5, v, 5), BAD);
        outside("counted", 0, 1000, (y, v) -> y.house(5, 5, v), BAD);
        refused("all three", y -> y.house(1001, -1, 1001), BAD);
    }

    private static PostedAsks rowsEachWider(int rows) {
        PostedAsks x = new PostedAsks();
        for (int i = 1; i <= rows; i++) {
            due("row " + i, x.house(500, 10, 510 + i), i);
        }
        return x;
    }

    private static void houseIsFull() {
        about("19: 24 rows at most");
        PostedAsks x = rowsEachWider(23);
        due("the 24th", x.house(0, 0, 0), 24);
        due("the 25th", x.house(0, 0, 0), FULL);
        due("rows", x.count(3), 24);
        due("the 24th is held", x.held(0), 1);
        refusedIn(Refusals::full, "a 25th that is held", y -> y.house(0, 0, 0), FULL);
        refusedIn(Refusals::full, "a 25th that is not", y -> y.house(0, 0, 1000), FULL);
        x.begin();
        due("anew", x.house(0, 0, 1000), 1);
        due("no row from before", x.held(999), 0);
        for (int i = 2; i <= 24; i++) {
            due("row " + i, x.house(0, 0, 1000), i);
        }
        due("the 25th", x.house(0, 0, 1000), FULL);
    }

    private static void heldBounds() {
        about("20: so much (0 .. 1000) added");
        PostedAsks x = new PostedAsks();
        x.house(0, 0, 0);
        x.house(0, 0, 999);
        x.house(0, 0, 1000);
        due("0", x.held(0), 1);
        due("998", x.held(998), 1);
        due("999", x.held(999), 2);
        due("1000", x.held(1000), 3);
        due("no rows", new PostedAsks().held(1000), 0);
        outside("more", 0, 1000, PostedAsks::held, BAD);
    }

    private static void heldAway() {
        about("20: counted no more than the span away");
        for (int more = 0; more <= 20; more += 5) {
            PostedAsks x = new PostedAsks();
            x.house(500, 30 - more, 470);
            due("just below, " + more, x.held(more), 1);
            x.house(500, 30 - more, 530);
            due("just above, " + more, x.held(more), 2);
            x.house(500, 30 - more, 469);
            due("too far below", x.held(more), 2);
            x.house(500, 30 - more, 531);
            due("too far above", x.held(more), 2);
            x.house(500, 0, 500);
            due("right", x.held(more), 3);
        }
        PostedAsks wide = new PostedAsks();
        wide.house(1000, 999, 0);
        due("999 of 1000", wide.held(0), 0);
        due("and 1", wide.held(1), 1);
    }

    private static void widerBounds() {
        about("21: h 0 .. 24");
        PostedAsks x = rowsEachWider(24);
        for (int h = 0; h <= 24; h++) {
            due("h " + h, x.wider(h), h);
        }
        outside("h", 0, 24, PostedAsks::wider, BAD);
    }

    private static void widerNone() {
        about("21: NONE: there are fewer");
        for (int rows = 0; rows <= 24; rows++) {
            PostedAsks x = rowsEachWider(rows);
            due("all " + rows, x.wider(rows), rows);
            if (rows < 24) {
                due("one more than " + rows, x.wider(rows + 1), NONE);
                due("24", x.wider(24), NONE);
            }
        }
        PostedAsks begun = rowsEachWider(24);
        begun.begin();
        due("none any more", begun.wider(1), NONE);
        due("0 of none", begun.wider(0), 0);
    }

    private static void widerLeast() {
        about("21: the least number, 0 where they are held already");
        PostedAsks x = new PostedAsks();
        x.house(0, 0, 1000);
        due("the most", x.wider(1), 1000);
        due("none needed", x.wider(0), 0);
        x.house(500, 100, 500);
        due("far within a span", x.wider(1), 0);
        due("both", x.wider(2), 1000);
        x.house(500, 100, 399);
        due("1 below", x.wider(2), 1);
        x.house(500, 100, 601);
        due("1 above", x.wider(2), 1);
        due("as much for three", x.wider(3), 1);
        due("for four", x.wider(4), 1000);
        for (int h = 0; h <= 4; h++) {
            int more = x.wider(h);
            due("so many are held", x.held(more) >= h ? 1 : 0, 1);
            due("with one less they are not", more > 0 && x.held(more - 1) >= h ? 1 : 0, 0);
        }
    }
}
