/** Each sentence of the document that names an edge of coin, kinds and counts (promises 22 to 28). */
public final class CoinEdgesTest extends Refusals {
    public static void main(String[] args) {
        priceBounds();
        errorBounds();
        errorOfPosted();
        errorOfDrawn();
        bestBounds();
        bestNone();
        bestPosted();
        bestDrawn();
        bestOfSeveral();
        costBounds();
        costOfLeastAndMost();
        costRounds();
        begin();
        countBounds();
        countOfFull();
        trace();
        askingChangesNothing();
        end("CoinEdgesTest");
    }

    // ---- price

    private static void priceBounds() {
        about("22: P, Q 0 .. 99 each");
        for (int what = 0; what < 2; what++) {
            int asked = what;
            PostedAsks x = new PostedAsks();
            due("0", x.price(what, 0), what == 0 ? 1 : 5);
            due("99", x.price(what, 99), 0);
            due("what it was", x.price(what, 1), 99);
            outside("price " + what, 0, 99, (y, v) -> y.price(asked, v), BAD);
        }
        about("22: H 1 .. 100");
        PostedAsks x = new PostedAsks();
        due("1", x.price(2, 1), 90);
        due("100", x.price(2, 100), 1);
        due("what it was", x.price(2, 50), 100);
        outside("H", 1, 100, (y, v) -> y.price(2, v), BAD);
        about("22: what 0 .. 2");
        due("one price leaves the others", x.price(0, 7), 1);
        due("Q", x.price(1, 8), 5);
        due("H", x.price(2, 9), 50);
        outside("what", 0, 2, (y, v) -> y.price(v, 50), BAD);
    }

    // ---- error

    private static void errorBounds() {
        about("23: LANDS 0 .. 3");
        PostedAsks x = new PostedAsks();
        for (int land = 0; land < 4; land++) {
            settle(x, land, 0, 0, 0, 0, 1, 1 + land);
            due("POSTED in " + land, x.error(land, 0), 0);
            due("all drawn in " + land, x.error(land, 2 + land), 0);
            due("k above N", x.error(land, 3 + land), BAD);
        }
        outside("land", 0, 3, (y, v) -> y.error(v, 0), BAD);
        about("23: k 0 .. N");
        for (int n : new int[] {1, 2, 49, 50}) {
            PostedAsks y = settled(1, n);
            for (int k = 0; k <= n; k++) {
                due("k " + k + " of " + n, y.error(1, k), k == 0 ? 101 : 0);
            }
            refusedIn(() -> settled(1, n), "k above " + n, z -> z.error(1, n + 1), BAD);
        }
        // No land has more than 50.
        outside("k", 0, 50, (y, v) -> y.error(0, v), BAD);
        about("23: STATE: the LAND has nobody");
        for (int land = 0; land < 4; land++) {
            int asked = land;
            refusedIn(Refusals::fresh, "POSTED among nobody", y -> y.error(asked, 0), STATE);
            refusedIn(Refusals::fresh, "1 drawn of nobody is BAD first", y -> y.error(asked, 1), BAD);
            refusedIn(Refusals::fresh, "-1 is BAD first", y -> y.error(asked, -1), BAD);
        }
        refusedIn(Refusals::some, "the land of nobody among others", y -> y.error(2, 0), STATE);
        PostedAsks gone = settled(0, 1);
        due("somebody", gone.error(0, 1), 0);
        gone.land(0, 0, 0);
        due("nobody any more", gone.error(0, 0), STATE);
    }

    private static int errorOf(int... counts) {
        return settled(0, counts).error(0, 0);
    }

    private static void errorOfPosted() {
        about("23: LEAN, without sign, in hundredths, rounded up");
        due("none", errorOf(0, 0, 0, 0, 25, 25), 0);
        due("49 by 50", errorOf(49, 0, 0, 0, 0, 1), 98);
        due("49 by 50 below", errorOf(0, 49, 0, 0, 1), 98);
        // 26/50 - 25/49 = 12/1225
        due("0.98", errorOf(0, 1, 0, 0, 24, 25), 1);
        due("0.98 above", errorOf(1, 0, 0, 0, 25, 24), 1);
        // 26/49 - 26/50 = 13/1225
        due("1.06", errorOf(1, 0, 0, 0, 23, 26), 2);
        // Of 25 with 1 of yes 20 are back, one of them of yes: 1/20 - 1/25.
        due("just 1", errorOf(5, 0, 0, 0, 19, 1), 1);
        due("a sixth", errorOf(0, 1, 0, 0, 1, 1), 17);
        due("two thirds", errorOf(2, 0, 0, 0, 0, 1), 67);
        due("just 50", errorOf(1, 0, 0, 0, 0, 1), 50);
        about("23: 101 where none came BACK");
        due("nobody on lists", errorOf(25, 25), 101);
        PostedAsks x = settled(0, 0, 0, 0, 0, 0, 50);
        x.rate(5, 1);
        due("50 by 1", x.error(0, 0), 101);
        x.rate(5, 2);
        due("50 by 2", x.error(0, 0), 0);
    }

    private static void errorOfDrawn() {
        about("23: the least d by which WAYS are H hundredths of ALL");
        // 1 drawn of 4 with 1 of yes: 3 of 4 ways are 25 away, the other 75.
        PostedAsks quarter = settled(0, 3, 1);
        // 1 drawn of 50 with 49 of yes: 49 of 50 ways are 2 away, the other 98.
        PostedAsks most = settled(0, 1, 49);
        // 1 drawn of 3 with 1 of yes: 2 of 3 ways are a third away, the other two.
        PostedAsks third = settled(0, 2, 1);
        for (int h = 1; h <= 100; h++) {
            quarter.price(2, h);
            most.price(2, h);
            third.price(2, h);
            due("quarter by " + h, quarter.error(0, 1), h <= 75 ? 25 : 75);
            due("most by " + h, most.error(0, 1), h <= 98 ? 2 : 98);
            due("third by " + h, third.error(0, 1), h <= 66 ? 34 : 67);
        }
        due("all drawn", quarter.error(0, 4), 0);
        PostedAsks sure = settled(0, 0, 50);
        sure.price(2, 100);
        due("everybody of yes", sure.error(0, 1), 0);
        about("23: of its N, its yes, on LISTS or not");
        PostedAsks mixed = settled(0, 1, 0, 1, 0, 1, 0, 0, 1);
        due("as a quarter", mixed.error(0, 1), 75);
        mixed.price(2, 75);
        due("by 75", mixed.error(0, 1), 25);
    }

    // ---- best

    private static void bestBounds() {
        about("24: coin 0 .. 9999, what 0, 1");
        PostedAsks x = settled(0, 1, 1);
        due("coin 0: POSTED to nobody", x.best(0, 0), 0);
        due("its ERROR", x.best(0, 1), 101);
        due("coin 9999", x.best(9999, 0), 2);
        due("its ERROR", x.best(9999, 1), 0);
        for (int what = 0; what < 2; what++) {
            int asked = what;
            outside("coin for " + what, 0, 9999, (y, v) -> y.best(v, asked), BAD);
        }
        outside("what", 0, 1, (y, v) -> y.best(5, v), BAD);
        about("24: STATE: no LAND has persons");
        for (int what = 0; what < 2; what++) {
            int asked = what;
            refusedIn(Refusals::fresh, "nobody, coin 0", y -> y.best(0, asked), STATE);
            refusedIn(Refusals::fresh, "nobody, coin 9999", y -> y.best(9999, asked), STATE);
        }
        for (int land = 0; land < 4; land++) {
            due("one person in " + land, settled(land, 1).best(9999, 0), 1);
        }
        PostedAsks gone = settled(3, 1);
        gone.begin();
        due("nobody any more", gone.best(9999, 0), STATE);
    }

    private static void bestNone() {
        about("24: NONE");
        PostedAsks x = settled(0, 0, 0, 0, 0, 1, 1);
        x.price(0, 3);
        due("coin 4", x.best(4, 0), NONE);
        due("no ERROR", x.best(4, 1), NONE);
        due("coin 0", x.best(0, 0), NONE);
        due("5 is for one drawn", x.best(5, 0), 1);
        due("6 is for cards", x.best(6, 0), 0);
        x.price(0, 99);
        x.price(1, 99);
        due("98", x.best(98, 1), NONE);
        due("99", x.best(99, 0), 1);
    }

    private static void bestPosted() {
        about("24: POSTED, if cards to all on LISTS cost no more");
        PostedAsks x = settled(0, 0, 0, 0, 0, 25, 25);
        x.price(1, 99);
        x.price(0, 99);
        due("4949", x.best(4949, 0), 49);
        due("4950 is for 50 cards, and for 50 drawn", x.best(4950, 0), 0);
        x.price(0, 1);
        due("49", x.best(49, 0), NONE);
        due("50", x.best(50, 0), 0);
        x.price(0, 0);
        due("cards for nothing", x.best(0, 0), 0);
        x.rate(4, 0);
        x.rate(5, 0);
        x.price(0, 1);
        due("cards cost though none comes back", x.best(49, 0), NONE);
        due("POSTED's ERROR then", x.best(50, 1), 101);
        about("24: in each LAND that has persons");
        PostedAsks two = settled(0, 0, 0, 0, 0, 2, 2);
        settle(two, 3, 0, 0, 0, 0, 3, 3);
        two.price(1, 99);
        due("enough for one of them", two.best(5, 0), NONE);
        due("enough for either", two.best(6, 0), 0);
    }

    private static void bestDrawn() {
        about("24: k drawn, if they cost no more");
        // Nobody on lists: POSTED errs by 101. 1 drawn errs by 50, 2 by 50, 3 by 17, ..
        PostedAsks x = settled(2, 3, 3);
        due("4", x.best(4, 0), 0);
        due("5", x.best(5, 0), 1);
        due("14", x.best(14, 0), 1);
        due("15", x.best(15, 0), 3);
        due("its ERROR", x.best(15, 1), 17);
        due("29", x.best(29, 0), 5);
        due("its ERROR", x.best(29, 1), 10);
        due("30", x.best(30, 0), 6);
        x.price(1, 0);
        due("for nothing", x.best(0, 0), 6);
        about("24: 1 .. the least N of LANDS that have persons");
        settle(x, 0, 0, 0, 0, 1, 0, 0, 0, 0);
        due("1 is the least N", x.best(9999, 0), 1);
        due("the ERROR of the other", x.best(9999, 1), 50);
        x.land(0, 3, 0);
        due("a LAND of nobody doesn't count", x.best(9999, 0), 6);
        PostedAsks great = settled(1, 25, 25);
        due("50 drawn", great.best(250, 0), 50);
        due("49 for 249", great.best(249, 0), 49);
    }

    private static void bestOfSeveral() {
        about("24: POSTED ahead of drawn");
        PostedAsks x = settled(0, 0, 0, 0, 0, 2, 2);
        due("both without ERROR", x.best(9999, 0), 0);
        x.rate(5, 0);
        // POSTED errs by 50 now, as 1 drawn does.
        due("both by 50", x.best(5, 0), 0);
        due("all drawn are better", x.best(20, 0), 4);
        about("24: less k ahead of more");
        PostedAsks sure = settled(0, 0, 9);
        due("1 is as good as 9", sure.best(9999, 0), 1);
        // 1 drawn of 6 with 3 of yes errs by 50, and so do 2 in 9 of 15 ways.
        due("1 as 2", settled(0, 3, 3).best(10, 0), 1);
        about("24: the least greatest ERROR of LANDS that have persons");
        PostedAsks two = settled(0, 0, 9);
        settle(two, 1, 2, 2, 0, 0, 0, 0, 0, 0);
        // Land 1: 1 drawn errs by 50, 2 by 50, 3 by 17, all by 0; land 0 never errs.
        due("all 4", two.best(9999, 0), 4);
        due("3", two.best(15, 0), 3);
        due("their ERROR", two.best(15, 1), 17);
        due("1", two.best(14, 0), 1);
        two.price(2, 66);
        due("2 are right in 4 of 6 ways", two.best(14, 0), 2);
        two.price(2, 67);
        due("not in 67 hundredths", two.best(14, 0), 1);
    }

    // ---- cost

    private static void costBounds() {
        about("25: KINDS 0 .. 6, LANDS 0 .. 3");
        for (int kind = 0; kind < 7; kind++) {
            PostedAsks x = new PostedAsks();
            int[] nobody = {2, 2, 2, 2, 3, 2, 1};
            for (int land = 0; land < 4; land++) {
                due("kind " + kind + " of nobody", x.cost(kind, land), nobody[kind]);
            }
            int asked = kind;
            outside("land of kind " + kind, 0, 3, (y, v) -> y.cost(asked, v), BAD);
        }
        outside("kind", 0, 6, (y, v) -> y.cost(v, 0), BAD);
        refused("both", y -> y.cost(7, 4), BAD);
    }

    private static void costOfLeastAndMost() {
        about("25: the least and the most");
        PostedAsks x = full();
        // 26 of 50 are on lists; 12 FINDS, 60 weeks; P, Q 99.
        int[] want = {2, 2576, 14, 4952, 7428, 62, 258};
        for (int kind = 0; kind < 7; kind++) {
            for (int land = 0; land < 4; land++) {
                due("kind " + kind, x.cost(kind, land), want[kind]);
            }
        }
        PostedAsks listed = settled(0, 0, 0, 0, 0, 10, 10, 15, 15);
        listed.price(0, 99);
        due("50 cards by 99", listed.cost(1, 0), 4952);
        due("a tenth of them", listed.cost(6, 0), 496);
        listed.price(0, 0);
        due("cards for nothing", listed.cost(1, 0), 2);
        listed.price(1, 0);
        due("drawn for nothing", listed.cost(3, 0), 2);
        due("CALLED then", listed.cost(4, 0), 3);
    }

    private static void costRounds() {
        about("25: CALLED half again as much as up, rounded down; SHADOW a tenth of up, rounded up");
        PostedAsks x = new PostedAsks();
        x.price(1, 1);
        for (int persons = 0; persons <= 50; persons++) {
            x.land(1, 4, persons);
            int up = 2 + persons;
            due("CALLED of " + up, x.cost(4, 1), up * 3 / 2);
            due("SHADOW of " + up, x.cost(6, 1), up / 10 + (up % 10 == 0 ? 0 : 1));
        }
        x.land(1, 4, 1);
        due("3 and a half of it", x.cost(4, 1), 4);
        x.land(1, 4, 8);
        due("a tenth of 10", x.cost(6, 1), 1);
        x.land(1, 4, 9);
        due("a tenth of 11", x.cost(6, 1), 2);
    }

    // ---- begin, count, trace

    private static void begin() {
        about("26: how many persons there were");
        due("nobody", new PostedAsks().begin(), 0);
        due("one", settled(3, 0, 0, 0, 0, 0, 0, 0, 1).begin(), 1);
        PostedAsks x = full();
        due("200", x.begin(), 200);
        due("nobody any more", x.begin(), 0);
        about("26: nobody, no weeks, no HOUSE; RATES, THE HABIT, prices stay, and all else");
        PostedAsks begun = some();
        due("persons", begun.begin(), 24 + 1 + 20);
        PostedAsks same = new PostedAsks();
        same.rate(0, 9);
        same.rate(4, 50);
        same.rate(5, 75);
        same.rate(7, 34);
        due("habit", habitOf(same, "find rly 2; find xun 1;"), 2);
        typeText(same, "all rl");
        same.price(0, 3);
        same.price(1, 7);
        same.price(2, 80);
        same.cost(6, 0);
        same.cost(4, 3);
        same("as one that never had them", readOut(begun), readOut(same));
        PostedAsks again = some();
        again.begin();
        due("the habit's way stays", again.land(0, 7, 3) + again.land(0, 2, 3), 0);
        due("rly first", again.found(0, 0, 2, 7), 2);
        due("rates stay", again.posted(0, 0), 1);
    }

    private static void countBounds() {
        about("27: what 0 .. 4");
        PostedAsks x = some();
        int[] want = {45, 2, 5, 3, 6};
        for (int what = 0; what < 5; what++) {
            due("what " + what, x.count(what), want[what]);
        }
        outside("what", 0, 4, PostedAsks::count, BAD);
    }

    private static void countOfFull() {
        about("27: of a new one and of a full one");
        PostedAsks fresh = new PostedAsks();
        PostedAsks full = full();
        int[] want = {200, 12, 60, 24, 300};
        for (int what = 0; what < 5; what++) {
            due("new " + what, fresh.count(what), 0);
            due("full " + what, full.count(what), want[what]);
        }
    }

    private static void trace() {
        about("28: numbers come to THE TRACE as often as cost() asks that body");
        long[] each = {1, 11, 101, 1001, 11001, 100001, 1000011};
        PostedAsks x = new PostedAsks();
        due("at first", x.trace(), 0);
        long sum = 0;
        for (int kind = 0; kind < 7; kind++) {
            x.cost(kind, 3 - kind % 4);
            sum += each[kind];
            due("kind " + kind, x.trace(), sum);
        }
        // Ten times and more of one number: it goes over into the next.
        PostedAsks many = new PostedAsks();
        for (int i = 0; i < 500; i++) {
            many.cost(6, 0);
        }
        due("500 times", many.trace(), 500005500L);
        about("28: a refused cost() asks no body");
        PostedAsks none = new PostedAsks();
        for (int kind = -1; kind <= 7; kind++) {
            due("land 4", none.cost(kind, 4), BAD);
            due("land -1", none.cost(kind, -1), BAD);
        }
        due("kind 7", none.cost(7, 0), BAD);
        due("kind -1", none.cost(-1, 0), BAD);
        due("nothing came", none.trace(), 0);
        about("28: begin() and clear() leave it");
        x.begin();
        x.clear();
        due("as it was", x.trace(), sum);
    }

    private static void askingChangesNothing() {
        about("all: calls that only ask change nothing");
        Call[] asks = {
            x -> x.people(0, 0), x -> x.posted(0, 4), x -> x.found(0, 50, 50, 8), x -> x.weighed(0, 5, 5, 0),
            x -> x.mends(0, 5, 5), x -> x.ways(50, 25, 25, 3, 0), x -> x.few(50, 25, 3, 90), x -> x.may(50, 9, 4, 2),
            x -> x.shadow(0, 1, 100, 0), x -> x.turn(1, 0), x -> x.stops(), x -> x.held(1000), x -> x.wider(24),
            x -> x.error(0, 0), x -> x.best(9999, 0), x -> x.count(0), x -> x.trace()};
        for (int i = 0; i < asks.length; i++) {
            for (State state : new State[] {Refusals::fresh, Refusals::some, Refusals::full}) {
                Call call = asks[i];
                long answer = call.on(state.make());
                refusedIn(state, "asking " + i, call, answer);
            }
        }
    }
}
