/**
 * Calls that are refused, in an object that is new, one that holds something of all, and one that is full:
 * the answer is the one that is due, and all that can be asked of the object is as if the call had not been.
 */
class Refusals extends Checks {
    interface State {
        PostedAsks make();
    }

    interface Call {
        long on(PostedAsks x);
    }

    interface NumberedCall {
        long on(PostedAsks x, int v);
    }

    /** Beyond a bound by casts to fewer bits, too: a number that is taken, and these more or less. */
    private static final int[] WRAPS = {1 << 7, 1 << 8, 1 << 15, 1 << 16, 1 << 31, -(1 << 8), -(1 << 16)};

    static PostedAsks fresh() {
        return new PostedAsks();
    }

    static PostedAsks some() {
        PostedAsks x = settled(0, 3, 2, 4, 1, 5, 4, 2, 3);
        x.land(1, 5, 1);
        x.land(3, 2, 10);
        x.land(3, 3, 5);
        x.land(3, 7, 5);
        x.rate(0, 9);
        x.rate(4, 50);
        x.rate(5, 75);
        x.rate(7, 34);
        due("habit", habitOf(x, "find rly 2; find xun 1;"), 2);
        typeText(x, "all rl");
        for (int share : new int[] {510, 540, 530, 575, 560}) {
            x.week(share);
        }
        x.house(500, 10, 511);
        x.house(480, 20, 500);
        x.house(0, 0, 1000);
        x.price(0, 3);
        x.price(1, 7);
        x.price(2, 80);
        x.cost(6, 0);
        x.cost(4, 3);
        return x;
    }

    /** 50 persons in each land, 12 finds, 300 bytes, 60 weeks, 24 rows. */
    static PostedAsks full() {
        PostedAsks x = new PostedAsks();
        for (int land = 0; land < 4; land++) {
            settle(x, land, 6, 6, 6, 6, 6, 6, 6, 8);
        }
        due("habit", habitOf(x, times("find xly 4;", 12)), 12);
        typeText(x, times(" ", 292) + "all rly;");
        for (int i = 0; i < 60; i++) {
            due("week", x.week(i * 37 % 1001), i + 1);
        }
        for (int i = 0; i < 24; i++) {
            due("house", x.house(i * 41, i, 1000 - i * 41), i + 1);
        }
        x.price(0, 99);
        x.price(1, 99);
        x.price(2, 100);
        x.cost(5, 2);
        return x;
    }

    /** All that an object can be asked; some 300 calls, and the object is spent. */
    static String readOut(PostedAsks x) {
        StringBuilder out = new StringBuilder();
        out.append(x.trace());
        for (int what = 0; what < 5; what++) {
            out.append(' ').append(x.count(what));
        }
        for (int land = 0; land < 4; land++) {
            readLand(x, land, out);
        }
        out.append(" weeks ").append(x.stops());
        for (int w = 1; w <= 60; w++) {
            out.append(' ').append(x.turn(w, 0)).append(' ').append(x.turn(w, 1));
        }
        out.append(" house ").append(x.held(0));
        for (int h = 0; h <= 24; h++) {
            out.append(' ').append(x.wider(h));
        }
        out.append(" rates");
        for (int group = 0; group < 8; group++) {
            out.append(' ').append(x.rate(group, 100));
        }
        out.append(" prices ").append(x.price(0, 1)).append(' ').append(x.price(1, 5)).append(' ').append(x.price(2, 90));
        // What is in the text shows when it is ended and read.
        out.append(" text ").append(x.type('y' << 8 | ';', 2)).append(' ').append(x.habit());
        readFound(x, 0, out);
        return out.toString();
    }

    private static void readLand(PostedAsks x, int land, StringBuilder out) {
        out.append(" land");
        for (int group = 0; group < 8; group++) {
            // Who wants 50 of each finds all, so this is the group's count.
            out.append(' ').append(x.found(land, 50, 50, group));
        }
        out.append(" back ").append(x.posted(land, 0)).append(' ').append(x.posted(land, 1));
        readFound(x, land, out);
    }

    private static void readFound(PostedAsks x, int land, StringBuilder out) {
        out.append(" found");
        for (int group = 0; group < 8; group++) {
            out.append(' ').append(x.found(land, 3, 4, group));
        }
    }

    static void refusedIn(State state, String what, Call call, long want) {
        String before = readOut(state.make());
        PostedAsks x = state.make();
        due(what, call.on(x), want);
        same("after " + what, readOut(x), before);
    }

    static void refused(String what, Call call, long want) {
        refusedIn(Refusals::fresh, what + " in a new one", call, want);
        refusedIn(Refusals::some, what, call, want);
        refusedIn(Refusals::full, what + " in a full one", call, want);
    }

    /** The numbers below low and above high are refused in any state. */
    static void outside(String what, int low, int high, NumberedCall call, long want) {
        refusedNumber(what, low - 1, call, want);
        refusedNumber(what, high + 1, call, want);
        refusedNumber(what, Integer.MIN_VALUE, call, want);
        refusedNumber(what, Integer.MAX_VALUE, call, want);
        for (int wrap : WRAPS) {
            int v = high + wrap;
            if (v < low || v > high) {
                refusedNumber(what, v, call, want);
            }
        }
    }

    private static void refusedNumber(String what, int v, NumberedCall call, long want) {
        refused(what + " " + v, x -> call.on(x, v), want);
    }
}
