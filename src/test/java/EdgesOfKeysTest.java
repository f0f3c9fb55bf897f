import java.util.Arrays;

/** Promises 29 to 32: the edges of guessed keys and of turns, a test for each sentence that names one. */
public final class EdgesOfKeysTest {
    private static final String PLAIN = "h1h1h1h1h1h1h1";

    /** twice() or quorum(): both are refused alike. */
    private interface Guess {
        int of(WellLocks x, int r);
    }

    public static void main(String[] args) {
        twice();
        twicePlain();
        quorum();
        guessRefused("29", WellLocks::twice);
        guessRefused("30", WellLocks::quorum);
        guessOrder("29", WellLocks::twice);
        guessOrder("30", WellLocks::quorum);
        turns();
        turnsLater();
        turnsRefused();
        aside();
        Check.end();
    }

    private static int twiceOf(String signs, int... pairs) {
        return Edge.laid(Edge.well(signs), 5, pairs).make().twice(5);
    }

    private static int quorumOf(String signs, int... pairs) {
        return Edge.laid(Edge.well(signs), 5, pairs).make().quorum(5);
    }

    private static int[] pairs(int many, int set, int opens) {
        int[] row = new int[2 * many];
        for (int i = 0; i < many; i++) {
            row[2 * i] = set;
            row[2 * i + 1] = opens;
        }
        return row;
    }

    private static void twice() {
        Edge.says("29: By a ROW of pairs (0 to 8)", () -> {
            Edge.due("none", twiceOf("q2990" + PLAIN), 127);
            Edge.due("one", twiceOf("q2990" + PLAIN, 1, 1), 1);
            Edge.due("seven", twiceOf("q2990" + PLAIN, pairs(7, 64, 1)), 64);
            Edge.due("eight", twiceOf("q2990" + PLAIN, pairs(8, 64, 1)), 64);
            int[] last = pairs(8, 64, 0);
            last[14] = 6;
            Edge.due("the eighth counts", twiceOf("q3990" + PLAIN, last), 127 - 6);
            last[15] = 1;
            Edge.due("the eighth, opened", twiceOf("q3990" + PLAIN, last), 6);
        });
        Edge.says("29: a set: of none, of all", () -> {
            Edge.due("none opened it", twiceOf("q1990" + PLAIN, 0, 1), 0);
            Edge.due("none did not", twiceOf("q1990" + PLAIN, 0, 0), 127);
            Edge.due("all opened it", twiceOf("q8990" + PLAIN, 127, 1), 127);
            Edge.due("all opened a greater one", twiceOf("q9990" + PLAIN, 127, 1), 0);
            Edge.due("all did not", twiceOf("q8990" + PLAIN, 127, 0), 0);
            Edge.due("of one HOUSE", twiceOf("q2990h1", 1, 1), 1);
            Edge.due("of one HOUSE, not", twiceOf("q3990h1", 1, 1), 0);
        });
        Edge.says("29: whose key can be the only DOUBLE one", () -> {
            Edge.due("two say the same", twiceOf("q3990" + PLAIN, 3, 1, 6, 1), 2);
            Edge.due("two do not fit", twiceOf("q3990" + PLAIN, 3, 1, 12, 1), 0);
            Edge.due("one does, one does not", twiceOf("q3990" + PLAIN, 3, 1, 6, 0), 1);
            Edge.due("pair by pair", twiceOf("q3990" + PLAIN, 3, 1, 1, 0), 3);
            Edge.due("the same, both ways", twiceOf("q3990" + PLAIN, 3, 1, 3, 0), 0);
        });
        Edge.says("29: no HOUSES", () -> {
            WellLocks x = Edge.dry();
            Edge.due("no pairs", x.twice(1), 0);
            Check.lay(x, 5, 0, 0);
            Edge.due("none did not", x.twice(5), 0);
            Check.lay(x, 5, 0, 1);
            Edge.due("none did", x.twice(5), 0);
        });
    }

    private static void twicePlain() {
        Edge.says("29: all HOUSES being plain ones", () -> {
            Edge.due("no SMITH is one of three", twiceOf("q3990m1m1", 1, 1), 0);
            Edge.due("no DOUBLE is one of two", twiceOf("q2990d1d1", 1, 1), 1);
            Edge.due("no RUSTY lock counts", twiceOf("q1990r1h1", 0, 1), 0);
            WellLocks x = Edge.laid(Edge.well("q2990c1c1"), 5, 1, 1).make();
            x.day();
            Edge.due("no CHILD on an odd DAY", x.twice(5), 1);
        });
        Edge.says("29: each HOLDING its own", () -> {
            WellLocks x = Edge.laid(Edge.well("q3990h1h1h1"), 5, 3, 1).make();
            x.pledge(0, 2);
            x.pledge(1, 2);
            Edge.due("keys aside", x.twice(5), 3);
        });
        Edge.says("29: whether it OPENS the WELL: by no FEUD, too", () -> {
            Edge.due("a FEUD that opened it", twiceOf("q2990h1h1x01", 3, 1), 0);
            Edge.due("a FEUD that did not", twiceOf("q2990h1h1x01", 3, 0), 3);
        });
    }

    private static void quorum() {
        Edge.says("30: How much WEIGHT can be what OPENS it (bits 1 .. 9)", () -> {
            Edge.due("no pairs", quorumOf("q5990" + PLAIN), 1022);
            Edge.due("1 and less", quorumOf("q5990" + PLAIN, 1, 1), 2);
            Edge.due("more than 1", quorumOf("q5990" + PLAIN, 1, 0), 1020);
            Edge.due("nobody did", quorumOf("q5990" + PLAIN, 0, 1), 0);
            Edge.due("nobody did not", quorumOf("q5990" + PLAIN, 0, 0), 1022);
            Edge.due("seven", quorumOf("q5990" + PLAIN, 127, 1), 254);
            Edge.due("more than seven", quorumOf("q5990" + PLAIN, 127, 0), 768);
            Edge.due("9", quorumOf("q1990m1m1m1", 7, 1), 1022);
            Edge.due("not by 9", quorumOf("q1990m1m1m1", 7, 0), 0);
            Edge.due("not by 8", quorumOf("q1990m1m1d1", 7, 0), 512);
            Edge.due("21", quorumOf("q1990m1m1m1m1m1m1m1", 127, 1), 1022);
            Edge.due("just 4", quorumOf("q1990" + PLAIN, 15, 1, 7, 0), 16);
            Edge.due("none fits", quorumOf("q1990" + PLAIN, 15, 0, 7, 1), 0);
            Edge.due("eight pairs", quorumOf("q1990" + PLAIN, pairs(8, 3, 1)), 6);
        });
        Edge.says("30: with all HOUSES, keys as they are", () -> {
            WellLocks x = Edge.laid(Edge.well("q5990r1c1h1h1"), 5, 8, 1).make();
            Edge.due("a RUSTY lock", x.quorum(5), 6);
            x.pledge(1, 3);
            Edge.due("a CHILD's key", x.quorum(5), 14);
            x.day();
            Edge.due("an odd DAY", x.quorum(5), 2);
        });
        Edge.says("30: by no FEUD, too", () -> {
            Edge.due("a FEUD that opened it", quorumOf("q2990h1h1x01", 3, 1), 0);
            Edge.due("a FEUD that did not", quorumOf("q2990h1h1x01", 3, 0), 1022);
        });
        Edge.says("30: no HOUSES", () -> {
            WellLocks x = Edge.dry();
            Edge.due("no pairs", x.quorum(1), 1022);
            Check.lay(x, 5, 0, 0);
            Edge.due("none did not", x.quorum(5), 1022);
            Check.lay(x, 5, 0, 1);
            Edge.due("none did", x.quorum(5), 0);
        });
    }

    private static void guessRefused(String promise, Guess guess) {
        Edge.says(promise + ": BAD", () -> {
            for (int r : Edge.outside(0, 5)) {
                Edge.bad("row " + r, Edge::seven, x -> guess.of(x, r));
                Edge.bad("no HOUSES, row " + r, Edge::dry, x -> guess.of(x, r));
            }
        });
        Edge.says(promise + ": NOTHING", () -> {
            Edge.found("row 4", Edge::seven, Edge.NOTHING, x -> guess.of(x, 4));
            Edge.found("no HOUSES", Edge::fresh, Edge.NOTHING, x -> guess.of(x, 0));
        });
        Edge.says(promise + ": SIZE: not by pairs", () -> {
            for (int n : new int[] {1, 3, 15, 17}) {
                Edge.found(n + " ints", Edge.laid(Edge::seven, 4, new int[n]), Edge.SIZE, x -> guess.of(x, 4));
            }
        });
        Edge.says(promise + ": SIZE: too many", () -> {
            for (int n : new int[] {18, 39, 40}) {
                Edge.found(n + " ints", Edge.laid(Edge::seven, 4, new int[n]), Edge.SIZE, x -> guess.of(x, 4));
            }
        });
        Edge.says(promise + ": UNLIKE: no set", () -> {
            for (int set : Edge.outside(0, 127)) {
                Edge.found("set " + set, Edge.laid(Edge::seven, 4, set, 1), Edge.UNLIKE, x -> guess.of(x, 4));
            }
            for (int set : Edge.outside(0, 1)) {
                Edge.found("of one, " + set, Edge.laid(Edge::one, 4, set, 1), Edge.UNLIKE, x -> guess.of(x, 4));
            }
            for (int set : Edge.outside(0, 0)) {
                Edge.found("no HOUSES, " + set, Edge.laid(Edge::dry, 4, set, 0), Edge.UNLIKE, x -> guess.of(x, 4));
            }
        });
        Edge.says(promise + ": UNLIKE: neither 1 nor 0", () -> {
            for (int said : Edge.outside(0, 1)) {
                Edge.found("said " + said, Edge.laid(Edge::seven, 4, 1, said), Edge.UNLIKE, x -> guess.of(x, 4));
            }
        });
    }

    private static void guessOrder(String promise, Guess guess) {
        Edge.says(promise + ": SIZE ahead of UNLIKE", () -> {
            Edge.found("three", Edge.laid(Edge::seven, 4, -1, 2, 3), Edge.SIZE, x -> guess.of(x, 4));
            int[] many = new int[18];
            Arrays.fill(many, -1);
            Edge.found("nine pairs", Edge.laid(Edge::seven, 4, many), Edge.SIZE, x -> guess.of(x, 4));
        });
        Edge.says(promise + ": UNLIKE, in the last pair, behind ones that do not fit", () -> {
            int[] eight = pairs(8, 0, 1);
            eight[14] = 128;
            Edge.found("no set", Edge.laid(Edge::seven, 4, eight), Edge.UNLIKE, x -> guess.of(x, 4));
            int[] also = pairs(8, 0, 1);
            also[15] = 2;
            Edge.found("neither", Edge.laid(Edge::seven, 4, also), Edge.UNLIKE, x -> guess.of(x, 4));
        });
    }

    private static void turnsAre(String signs, int opens, int first) {
        WellLocks x = Check.wellOf(signs);
        Edge.due("call of " + signs, x.call(), opens);
        Edge.due("first of " + signs, x.first(), first);
    }

    private static void turns() {
        Edge.says("31: the first one begins, till there is none", () -> {
            turnsAre("q1990h1", 1, 0);
            turnsAre("q2990h1", 0, Edge.NONE);
            turnsAre("q1990h1h1", 1, 0);
            turnsAre("q2990h1h1", 0, Edge.NONE);
            turnsAre("q2990h1h1h1", 1, 0);
            turnsAre("q3990h1h1h1", 0, Edge.NONE);
            turnsAre("q3990" + PLAIN.substring(2), 1, 0);
            turnsAre("q4990" + PLAIN.substring(2), 0, Edge.NONE);
            turnsAre("q4990" + PLAIN, 1, 0);
            turnsAre("q5990" + PLAIN, 0, Edge.NONE);
        });
        Edge.says("31: it must call, wanted or not", () -> {
            turnsAre("q1990r1r1r1x01x02x12", 0, Edge.NONE);
            turnsAre("q1990r1r1x01", 1, 0);
            turnsAre("q1990h1h1h1x01", 1, 2);
            turnsAre("q1990h1h1h1x01x02", 0, Edge.NONE);
        });
        Edge.says("32: the least by which they do", () -> {
            turnsAre("q2990h1h1h1h1h1d1h1", 1, 0);
            turnsAre("q2990h1d1", 1, 1);
            turnsAre("q3990h1h1m1", 1, 2);
            turnsAre("q5990h1h1h1h1h1h1d1", 1, 6);
            turnsAre("q6990h1h1h1h1h1h1m1", 1, 6);
        });
        Edge.says("32: NONE: by none", () -> {
            turnsAre("q9990" + PLAIN, 0, Edge.NONE);
            turnsAre("q4990h1h1d1d1h1", 1, 0);
            turnsAre("q5990h1h1d1d1h1", 0, Edge.NONE);
        });
    }

    private static void turnsLater() {
        Edge.says("31, 32: by the DAY and the keys as they are, one asked without the other", () -> {
            WellLocks x = Check.wellOf("q1990c1c1");
            Edge.due("first, DAY 0", x.first(), 0);
            x.day();
            Edge.due("first, DAY 1", x.first(), Edge.NONE);
            x.day();
            Edge.due("call, DAY 2", x.call(), 1);
            x.pledge(0, 1);
            Edge.due("first, pledged", x.first(), 1);
            x.day();
            Edge.due("call, DAY 3", x.call(), 0);
        });
    }

    private static void turnsRefused() {
        Edge.says("31: STATE: no HOUSES", () -> {
            Edge.state("new", Edge::fresh, WellLocks::call);
            Edge.state("with rows", Edge::dry, WellLocks::call);
        });
        Edge.says("32: STATE: no HOUSES", () -> {
            Edge.state("new", Edge::fresh, WellLocks::first);
            Edge.state("with rows", Edge::dry, WellLocks::first);
        });
    }

    private static void aside() {
        Edge.says("29 to 32 tell alone", () -> {
            WellLocks x = Edge.brim();
            x.twice(1);
            x.quorum(1);
            x.call();
            x.first();
            Edge.same("as it was", x, Edge.brim());
        });
    }
}
