/**
 * What the tests of the edges share: a test of its own for a sentence of the document, and calls that are
 * refused, behind each of which nothing may have changed but finding(), findings().
 */
public final class Edge {
    public static final int MIN = Integer.MIN_VALUE, MAX = Integer.MAX_VALUE;
    public static final int BAD = -1, FULL = -2, FINDING = -3, STATE = -4, NONE = -9;
    public static final int NOTHING = 1, BEYOND = 2, UNLIKE = 3, NOUGHT = 4, SIZE = 5;

    /** Seven houses of all kinds, two feuds: house 3 is a double, 5 a smith; 0 and 1, 3 and 6 have a feud. */
    public static final String SEVEN = "q3205 h4c3 r5d2s7m6 h1x01x36";

    private Edge() {
    }

    public interface Start {
        WellLocks make();
    }

    public interface Call {
        long on(WellLocks x);
    }

    public interface Test {
        void run();
    }

    /** A test of its own for what the document says in these words. */
    public static void says(String words, Test test) {
        Check.by(words);
        test.run();
        Check.by("");
    }

    public static void due(String what, long got, long want) {
        Check.due(what, got, want);
    }

    /** The call is refused by this number, which is not FINDING. */
    public static void refused(String what, Start start, int want, Call call) {
        refuse(what, start, call, want, 0);
    }

    public static void bad(String what, Start start, Call call) {
        refuse(what, start, call, BAD, 0);
    }

    public static void state(String what, Start start, Call call) {
        refuse(what, start, call, STATE, 0);
    }

    public static void full(String what, Start start, Call call) {
        refuse(what, start, call, FULL, 0);
    }

    /** The call is refused by this finding. */
    public static void found(String what, Start start, int finding, Call call) {
        refuse(what, start, call, FINDING, finding);
    }

    private static void refuse(String what, Start start, Call call, int want, int finding) {
        WellLocks x = start.make();
        WellLocks twin = start.make();
        due(what, call.on(x), want);
        due(what + ", then finding()", x.finding(), finding == 0 ? twin.finding() : finding);
        for (int f = 1; f <= 5; f++) {
            due(what + ", then findings(" + f + ")", x.findings(f), twin.findings(f) + (f == finding ? 1 : 0));
        }
        same(what, x, twin);
    }

    /** All that can be asked of both is the same, down to their deeds and what is kept. */
    public static void same(String what, WellLocks x, WellLocks twin) {
        due(what + ", then asked()", x.asked(), twin.asked());
        due(what + ", then upper()", x.upper(), twin.upper());
        due(what + ", then lower()", x.lower(), twin.lower());
        due(what + ", then digest()", x.digest(), twin.digest());
        sameDeeds(what + ", then undo()", x, twin);
        for (int k = 0; k < 3; k++) {
            due(what + ", then on(" + k + ")", x.on(k), twin.on(k));
            due(what + ", on(" + k + "), digest()", x.digest(), twin.digest());
            sameDeeds(what + ", on(" + k + "), undo()", x, twin);
        }
        for (int t = 0; t < 4; t++) {
            due(what + ", then well(" + t + ")", x.well(t), twin.well(t));
        }
    }

    private static void sameDeeds(String what, WellLocks x, WellLocks twin) {
        for (int n = twin.count(2) - 1; n >= 0; n--) {
            due(what, x.undo(n), twin.undo(n));
            due(what + ", digest()", x.digest(), twin.digest());
        }
    }

    /** The numbers nearest to a range, and those farthest away from it. */
    public static int[] outside(int low, int high) {
        return new int[] {low - 1, high + 1, MIN, MAX};
    }

    /** Without houses, rows, texts. */
    public static WellLocks fresh() {
        return new WellLocks();
    }

    /** Rows 0 (of three), 1 (of none), 2 (of 40), texts 0 (a well), 1 (a fault), 2 (of none); no houses. */
    public static WellLocks dry() {
        WellLocks x = new WellLocks();
        Check.write(x, 0, SEVEN);
        Check.write(x, 1, "q0205 h4");
        x.text(2, 0);
        x.row(1, 0);
        x.row(2, 40);
        for (int i = 0; i < 40; i++) {
            x.lay(2, i, i - 20);
        }
        Check.lay(x, 0, 5, 2, 0);
        return x;
    }

    /** As dry(), with a well of seven houses, deeds, two kept wells; something was asked, told, found. */
    public static WellLocks seven() {
        WellLocks x = dry();
        x.well(0);
        x.meet(0);
        x.keep(2);
        x.pledge(2, 5);
        x.day();
        x.day();
        x.pledge(0, 6);
        x.keep(0);
        x.pledge(4, 2);
        x.odds(5);
        x.mean(1);
        x.at(2, 39);
        return x;
    }

    /** As seven(), with 40 deeds. */
    public static WellLocks brim() {
        WellLocks x = seven();
        while (x.count(2) < 40) {
            x.day();
        }
        x.keep(1);
        return x;
    }

    /** One plain house that opens its well alone. */
    public static WellLocks one() {
        return Check.wellOf("q1104h3");
    }

    /** A start, and a row laid behind it (what was asked stays aside: both twins have it). */
    public static Start laid(Start start, int r, int... values) {
        return () -> {
            WellLocks x = start.make();
            Check.lay(x, r, values);
            return x;
        };
    }

    public static Start well(String signs) {
        return () -> Check.wellOf(signs);
    }
}
