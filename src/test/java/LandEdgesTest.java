/** Each sentence of the document that names an edge of a new object, of lands and of cards (promises 1 to 5). */
public final class LandEdgesTest extends Refusals {
    public static void main(String[] args) {
        newObject();
        lands();
        groups();
        counts();
        together();
        rates();
        people();
        back();
        shares();
        lean();
        end("LandEdgesTest");
    }

    private static void newObject() {
        about("1: nobody, no FINDS, no weeks, no HOUSE, no text at first");
        PostedAsks x = new PostedAsks();
        for (int land = 0; land < 4; land++) {
            newLand(x, land);
        }
        for (int what = 0; what < 5; what++) {
            due("count " + what, x.count(what), 0);
        }
        due("trace", x.trace(), 0);
        due("turn", x.turn(1, 0), NONE);
        due("stops", x.stops(), 0);
        due("held", x.held(1000), 0);
        due("wider 0", x.wider(0), 0);
        due("wider 1", x.wider(1), NONE);
        due("best", x.best(9999, 0), STATE);
        due("begin", x.begin(), 0);
        due("clear", x.clear(), 0);
        about("1: RATES 100 at first");
        for (int group = 0; group < 8; group++) {
            due("rate " + group, x.rate(group, 0), 100);
        }
        about("1: prices 1, 5, H 90 at first");
        due("P", x.price(0, 0), 1);
        due("Q", x.price(1, 0), 5);
        due("H", x.price(2, 1), 90);
        about("1: one object's calls leave another new");
        PostedAsks other = fresh();
        String before = readOut(fresh());
        readOut(full());
        same("one made before", readOut(other), before);
        same("one made after", readOut(fresh()), before);
    }

    private static void newLand(PostedAsks x, int land) {
        for (int what = 0; what < 6; what++) {
            due("people " + what, x.people(land, what), 0);
        }
        for (int group = 0; group <= 8; group++) {
            due("found " + group, x.found(land, 50, 50, group), 0);
        }
        due("back", x.posted(land, 0), 0);
        due("back of yes", x.posted(land, 1), 0);
        for (int what = 2; what < 6; what++) {
            due("posted " + what, x.posted(land, what), NO);
        }
        due("weighed", x.weighed(land, 50, 50, 0), NO);
        due("mends", x.mends(land, 50, 50), NONE);
        due("shadow", x.shadow(land, 1, 100, 0), NO);
        due("error", x.error(land, 0), STATE);
    }

    private static void lands() {
        about("2: LANDS 0 .. 3");
        PostedAsks x = new PostedAsks();
        for (int land = 0; land < 4; land++) {
            due("land " + land, x.land(land, 0, land + 1), 0);
        }
        for (int land = 0; land < 4; land++) {
            due("people of " + land, x.people(land, 0), land + 1);
        }
        outside("land", 0, 3, (y, v) -> y.land(v, 0, 1), BAD);
        about("4: LANDS 0 .. 3");
        outside("people's land", 0, 3, (y, v) -> y.people(v, 0), BAD);
        about("5: LANDS 0 .. 3");
        outside("posted's land", 0, 3, (y, v) -> y.posted(v, 0), NO);
    }

    private static void groups() {
        about("2: GROUPS 0 .. 7");
        PostedAsks x = new PostedAsks();
        for (int group = 0; group < 8; group++) {
            due("group " + group, x.land(2, group, group + 1), 0);
        }
        for (int group = 0; group < 8; group++) {
            due("count of " + group, x.found(2, 50, 50, group), group + 1);
            due("what it was", x.land(2, group, 0), group + 1);
        }
        outside("land's group", 0, 7, (y, v) -> y.land(0, v, 1), BAD);
        about("3: GROUPS 0 .. 7");
        for (int group = 0; group < 8; group++) {
            due("group " + group, x.rate(group, group), 100);
        }
        for (int group = 0; group < 8; group++) {
            due("what it was", x.rate(group, 1), group);
        }
        outside("rate's group", 0, 7, (y, v) -> y.rate(v, 1), BAD);
    }

    private static void counts() {
        about("2: COUNTS 0 .. 50");
        for (int group = 0; group < 8; group++) {
            PostedAsks x = new PostedAsks();
            due("0", x.land(3, group, 0), 0);
            due("50", x.land(3, group, 50), 0);
            due("50 are there", x.people(3, 0), 50);
            due("0 again", x.land(3, group, 0), 50);
            due("nobody is there", x.people(3, 0), 0);
            due("1", x.land(3, group, 1), 0);
            due("1 again", x.land(3, group, 1), 1);
        }
        // In a full land, too: BAD comes ahead of FULL.
        outside("v", 0, 50, (y, v) -> y.land(0, 3, v), BAD);
        refused("all three", y -> y.land(4, 8, 51), BAD);
        refused("all three below", y -> y.land(-1, -1, -1), BAD);
    }

    private static void together() {
        about("2: together 50 at most in a LAND");
        for (int group = 0; group < 8; group++) {
            int last = group;
            State nearlyFull = () -> sevenOfOthers(last);
            PostedAsks x = nearlyFull.make();
            due("the 50th", x.land(1, group, 1), 0);
            due("the 51st", x.land(1, group, 2), FULL);
            due("50 more", x.land(1, group, 50), FULL);
            due("50 are there", x.people(1, 0), 50);
            due("as before", x.land(1, group, 1), 1);
            due("fewer", x.land(1, group, 0), 1);
            refusedIn(nearlyFull, "2 where 1 may come", y -> y.land(1, last, 2), FULL);
            refusedIn(Refusals::full, "one more", y -> y.land(2, last, last == 7 ? 9 : 7), FULL);
        }
        about("2: a COUNT that was there makes room for the new one");
        PostedAsks x = settled(0, 20, 30);
        due("the same", x.land(0, 1, 30), 30);
        due("one more", x.land(0, 1, 31), FULL);
        due("fewer", x.land(0, 0, 19), 20);
        due("now one more", x.land(0, 1, 31), 30);
        due("and no more", x.land(0, 1, 32), FULL);
        about("2: 50 at most in A land");
        PostedAsks all = new PostedAsks();
        for (int land = 0; land < 4; land++) {
            due("land " + land, all.land(land, 7 - land, 50), 0);
        }
        due("persons of all", all.count(0), 200);
    }

    private static PostedAsks sevenOfOthers(int group) {
        PostedAsks x = new PostedAsks();
        for (int other = 0; other < 8; other++) {
            if (other != group) {
                due("seven", x.land(1, other, 7), 0);
            }
        }
        return x;
    }

    private static void rates() {
        about("3: RATES 0 .. 100");
        for (int group = 0; group < 8; group++) {
            PostedAsks x = settled(0, 0, 0, 0, 0, 10, 10, 10, 10);
            boolean listed = group > 3;
            due("0", x.rate(group, 0), 100);
            due("none of the group", x.posted(0, 0), listed ? 30 : 40);
            due("100", x.rate(group, 100), 0);
            due("all of the group", x.posted(0, 0), 40);
            due("100 again", x.rate(group, 100), 100);
            int asked = group;
            outside("v of group " + group, 0, 100, (y, v) -> y.rate(asked, v), BAD);
        }
        refused("both", y -> y.rate(8, 101), BAD);
    }

    private static void people() {
        about("4: what 0 .. 5");
        for (int group = 0; group < 8; group++) {
            PostedAsks x = new PostedAsks();
            x.land(3, group, 50);
            boolean yes = (group & 1) != 0;
            boolean rich = (group & 2) != 0;
            boolean listed = (group & 4) != 0;
            boolean[] counted = {true, yes, listed, listed && yes, rich, rich && yes};
            for (int what = 0; what < 6; what++) {
                due("group " + group + " by " + what, x.people(3, what), counted[what] ? 50 : 0);
                due("a land of nobody", x.people(0, what), 0);
            }
        }
        outside("what", 0, 5, (y, v) -> y.people(0, v), BAD);
        refused("both", y -> y.people(4, 6), BAD);
    }

    private static void back() {
        about("5: COUNT times RATE by 100, rounded down");
        for (int group = 4; group < 8; group++) {
            PostedAsks x = new PostedAsks();
            x.land(0, group, 1);
            x.rate(group, 99);
            due("1 by 99", x.posted(0, 0), 0);
            x.rate(group, 100);
            due("1 by 100", x.posted(0, 0), 1);
            x.land(0, group, 50);
            x.rate(group, 1);
            due("50 by 1", x.posted(0, 0), 0);
            x.rate(group, 2);
            due("50 by 2", x.posted(0, 0), 1);
            due("of yes", x.posted(0, 1), group % 2);
            x.rate(group, 99);
            due("50 by 99", x.posted(0, 0), 49);
            x.land(0, group, 3);
            x.rate(group, 33);
            due("3 by 33", x.posted(0, 0), 0);
            x.rate(group, 34);
            due("3 by 34", x.posted(0, 0), 1);
        }
        about("5: of each GROUP rounded down");
        PostedAsks x = settled(1, 0, 0, 0, 0, 1, 1, 1, 1);
        for (int group = 4; group < 8; group++) {
            x.rate(group, 99);
        }
        due("four of 99 hundredths are none", x.posted(1, 0), 0);
        due("nor of yes", x.posted(1, 1), 0);
        due("nothing to share", x.posted(1, 2), NO);
        about("5: a card to each one on LISTS");
        PostedAsks off = settled(2, 12, 12, 13, 13);
        due("nobody on lists", off.posted(2, 0), 0);
        due("nothing to share", off.posted(2, 3), NO);
    }

    private static void shares() {
        about("5: what 0 .. 5");
        PostedAsks x = settled(0, 5, 5, 0, 0, 4, 6);
        long[] want = {10, 6, 3, 5, 1, 20};
        for (int what = 0; what < 6; what++) {
            due("what " + what, x.posted(0, what), want[what]);
        }
        outside("what", 0, 5, (y, v) -> y.posted(0, v), NO);
        refused("both", y -> y.posted(4, 6), NO);
        about("5: in least terms, the lower number above 0");
        PostedAsks no = settled(1, 0, 0, 0, 0, 25, 0, 25);
        due("none of 50", no.posted(1, 2), 0);
        due("by 1", no.posted(1, 3), 1);
        PostedAsks yes = settled(1, 0, 0, 0, 0, 0, 25, 0, 25);
        due("50 of 50", yes.posted(1, 2), 1);
        due("by 1", yes.posted(1, 3), 1);
        PostedAsks most = settled(1, 0, 0, 0, 0, 1, 49);
        due("49", most.posted(1, 2), 49);
        due("by 50", most.posted(1, 3), 50);
        about("5: NO where there is nobody to share");
        PostedAsks one = settled(0, 49, 0, 0, 0, 0, 1);
        due("one is back", one.posted(0, 3), 1);
        one.rate(5, 99);
        for (int what = 2; what < 6; what++) {
            due("nobody is back " + what, one.posted(0, what), NO);
            due("nobody is there " + what, one.posted(1, what), NO);
        }
        due("0 came back", one.posted(0, 0), 0);
        due("0 of yes", one.posted(0, 1), 0);
    }

    private static void lean() {
        about("5: LEAN: SHARE less TRUTH");
        PostedAsks up = settled(0, 49, 0, 0, 0, 0, 1);
        due("the most", up.posted(0, 4), 49);
        due("by 50", up.posted(0, 5), 50);
        PostedAsks down = settled(0, 0, 49, 0, 0, 1);
        due("the least", down.posted(0, 4), -49);
        due("by 50", down.posted(0, 5), 50);
        PostedAsks even = settled(0, 1, 1, 0, 0, 1, 1);
        due("none", even.posted(0, 4), 0);
        due("by 1", even.posted(0, 5), 1);
        PostedAsks small = settled(0, 0, 1, 0, 0, 24, 25);
        // 25/49 - 26/50 = (1250 - 1274) / 2450
        due("just below", small.posted(0, 4), -12);
        due("by 1225", small.posted(0, 5), 1225);
    }
}
