/** What the tests share: answers held against those that are due, and lands and habits put up in few calls. */
class Checks {
    static final long NO = -1000000000000000000L;
    static final int BAD = -1, STATE = -2, FULL = -3, NONE = -9;
    private static int checks = 0;
    private static int wrong = 0;
    private static String about = "";

    /** The promise, or the document's sentence, that the next checks are about. */
    static void about(String sentence) {
        about = sentence;
    }

    static void due(String what, long got, long want) {
        checks++;
        if (got != want) {
            wrong++;
            System.out.println(about + ": " + what + " answered " + got + ", due is " + want);
        }
    }

    static void same(String what, String got, String want) {
        checks++;
        if (!got.equals(want)) {
            wrong++;
            System.out.println(about + ": " + what + ":\n  " + got + "\n  due is\n  " + want);
        }
    }

    static void end(String test) {
        System.out.println(test + ": " + checks + " checks, " + wrong + " wrong");
        if (wrong != 0) {
            System.exit(1);
        }
    }

    /** An object with these counts of groups 0 .. 7 in a land. */
    static PostedAsks settled(int land, int... counts) {
        PostedAsks x = new PostedAsks();
        settle(x, land, counts);
        return x;
    }

    static void settle(PostedAsks x, int land, int... counts) {
        for (int group = 0; group < counts.length; group++) {
            due("land", x.land(land, group, counts[group]), 0);
        }
    }

    static void typeText(PostedAsks x, String text) {
        // Eight bytes a call: an object is good for 512 calls.
        int length = x.count(4);
        for (int at = 0; at < text.length(); at += 8) {
            int n = Math.min(8, text.length() - at);
            long v = 0;
            for (int i = 0; i < n; i++) {
                v = v << 8 | text.charAt(at + i);
            }
            length += n;
            due("type", x.type(v, n), length);
        }
    }

    static int habitOf(PostedAsks x, String text) {
        x.clear();
        typeText(x, text);
        return x.habit();
    }

    static String times(String text, int n) {
        StringBuilder all = new StringBuilder();
        for (int i = 0; i < n; i++) {
            all.append(text);
        }
        return all.toString();
    }
}
