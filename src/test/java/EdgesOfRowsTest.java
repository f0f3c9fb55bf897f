/** Promises 1 to 7: the edges of rows, a test for each sentence that names one. */
public final class EdgesOfRowsTest {
    private static final int MIN = Edge.MIN, MAX = Edge.MAX;

    public static void main(String[] args) {
        anew();
        row();
        lay();
        at();
        tear();
        copy();
        copyRefused();
        mean();
        Check.end();
    }

    private static void anew() {
        Edge.says("1: No ROWS, TEXTS, HOUSES", () -> {
            WellLocks x = new WellLocks();
            for (int what = 0; what <= 10; what++) {
                Edge.due("count(" + what + ")", x.count(what), 0);
            }
            for (int r = 0; r <= 5; r++) {
                int row = r;
                Edge.found("row " + r, Edge::fresh, Edge.NOTHING, y -> y.at(row, 0));
            }
            for (int t = 0; t <= 3; t++) {
                int text = t;
                Edge.found("text " + t, Edge::fresh, Edge.NOTHING, y -> y.fault(text));
            }
            Edge.bad("house 0", Edge::fresh, y -> y.house(0, 0));
        });
    }

    private static void rowIsOf0(WellLocks x, int r, int n) {
        Edge.due("row(" + r + ", " + n + ")", x.row(r, n), n);
        for (int i = 0; i < n; i++) {
            Check.asks("place " + i + " of " + n, x, x.at(r, i), 0);
        }
        Check.finds("place behind " + n, x, x.at(r, n), Edge.BEYOND);
    }

    private static void row() {
        Edge.says("2: A ROW is there with n ints 0: n (0 .. 5; 0 to 40)", () -> {
            for (int r = 0; r <= 5; r++) {
                rowIsOf0(new WellLocks(), r, 0);
                rowIsOf0(new WellLocks(), r, 1);
                rowIsOf0(new WellLocks(), r, 39);
                rowIsOf0(new WellLocks(), r, 40);
            }
        });
        Edge.says("2: there with n ints 0, also where there was one", () -> {
            WellLocks x = Edge.dry();
            rowIsOf0(x, 2, 3);
            rowIsOf0(x, 2, 40);
            rowIsOf0(x, 0, 0);
            rowIsOf0(x, 0, 3);
        });
        Edge.says("2: BAD", () -> {
            for (int r : Edge.outside(0, 5)) {
                Edge.bad("row " + r, Edge::seven, x -> x.row(r, 3));
            }
        });
        Edge.says("2: BAD: also n above 40", () -> {
            Edge.bad("41", Edge::seven, x -> x.row(0, 41));
            Edge.bad("41, missing", Edge::seven, x -> x.row(5, 41));
            Edge.bad("the greatest", Edge::seven, x -> x.row(0, MAX));
        });
        Edge.says("2: SIZE: below 0", () -> {
            Edge.found("-1", Edge::seven, Edge.SIZE, x -> x.row(0, -1));
            Edge.found("-1, missing", Edge::fresh, Edge.SIZE, x -> x.row(0, -1));
            Edge.found("the least", Edge::seven, Edge.SIZE, x -> x.row(5, MIN));
        });
        Edge.says("2: BAD ahead of SIZE", () -> {
            Edge.bad("row 6 of -1", Edge::seven, x -> x.row(6, -1));
            Edge.bad("row -1 of the least", Edge::seven, x -> x.row(-1, MIN));
        });
    }

    private static void lay() {
        Edge.says("3: Place i of a ROW is v: what it was, told by asked(): 1", () -> {
            WellLocks x = Edge.dry();
            Check.asks("first place", x, x.lay(2, 0, MIN), -20);
            Check.asks("first place again", x, x.lay(2, 0, MAX), MIN);
            Check.asks("and again", x, x.lay(2, 0, 0), MAX);
            Check.asks("last place", x, x.lay(2, 39, -1), 19);
            Check.asks("last place again", x, x.lay(2, 39, -9), -1);
            Check.asks("beside it", x, x.at(2, 38), 18);
            Check.asks("beside the first", x, x.at(2, 1), -19);
        });
        Edge.says("3: BAD", () -> {
            for (int r : Edge.outside(0, 5)) {
                Edge.bad("row " + r, Edge::seven, x -> x.lay(r, 0, 1));
                Edge.bad("row " + r + ", no place", Edge::seven, x -> x.lay(r, -1, 1));
            }
        });
        Edge.says("3: NOTHING", () -> {
            Edge.found("row 5", Edge::seven, Edge.NOTHING, x -> x.lay(5, 0, 1));
            Edge.found("row 0", Edge::fresh, Edge.NOTHING, x -> x.lay(0, 0, 1));
        });
        Edge.says("3: NOTHING ahead of BEYOND", () -> {
            Edge.found("-1", Edge::seven, Edge.NOTHING, x -> x.lay(4, -1, 1));
            Edge.found("40", Edge::seven, Edge.NOTHING, x -> x.lay(4, 40, 1));
        });
        Edge.says("3: BEYOND", () -> {
            for (int i : Edge.outside(0, 2)) {
                Edge.found("of three, " + i, Edge::seven, Edge.BEYOND, x -> x.lay(0, i, 7));
            }
            for (int i : Edge.outside(0, 39)) {
                Edge.found("of 40, " + i, Edge::seven, Edge.BEYOND, x -> x.lay(2, i, 7));
            }
            Edge.found("of none, 0", Edge::seven, Edge.BEYOND, x -> x.lay(1, 0, 7));
        });
    }

    private static void at() {
        Edge.says("4: Place i of a ROW, told by asked(): 1", () -> {
            WellLocks x = Edge.dry();
            for (int i = 0; i < 40; i++) {
                Check.asks("place " + i, x, x.at(2, i), i - 20);
            }
            Check.lay(x, 5, MIN, MAX);
            Check.asks("the least", x, x.at(5, 0), MIN);
            Check.asks("the greatest", x, x.at(5, 1), MAX);
        });
        Edge.says("4: BAD", () -> {
            for (int r : Edge.outside(0, 5)) {
                Edge.bad("row " + r, Edge::seven, x -> x.at(r, 0));
                Edge.bad("row " + r + ", no place", Edge::seven, x -> x.at(r, MIN));
            }
        });
        Edge.says("4: NOTHING", () -> {
            Edge.found("row 4", Edge::seven, Edge.NOTHING, x -> x.at(4, 0));
            Edge.found("torn", () -> {
                WellLocks x = Edge.seven();
                x.tear(0);
                return x;
            }, Edge.NOTHING, x -> x.at(0, 0));
        });
        Edge.says("4: NOTHING ahead of BEYOND", () -> {
            Edge.found("-1", Edge::seven, Edge.NOTHING, x -> x.at(4, -1));
            Edge.found("the greatest", Edge::seven, Edge.NOTHING, x -> x.at(4, MAX));
        });
        Edge.says("4: BEYOND", () -> {
            for (int i : Edge.outside(0, 2)) {
                Edge.found("of three, " + i, Edge::seven, Edge.BEYOND, x -> x.at(0, i));
            }
            for (int i : Edge.outside(0, 39)) {
                Edge.found("of 40, " + i, Edge::seven, Edge.BEYOND, x -> x.at(2, i));
            }
            Edge.found("of none, 0", Edge::seven, Edge.BEYOND, x -> x.at(1, 0));
        });
    }

    private static void tear() {
        Edge.says("5: A ROW is missing: 1", () -> {
            for (int r = 0; r <= 5; r++) {
                WellLocks x = new WellLocks();
                x.row(r, 40 * (r % 2));
                Edge.due("tear " + r, x.tear(r), 1);
                Edge.due("rows then", x.count(8), 0);
                Check.finds("place 0 then", x, x.at(r, 0), Edge.NOTHING);
            }
        });
        Edge.says("5: BAD", () -> {
            for (int r : Edge.outside(0, 5)) {
                Edge.bad("row " + r, Edge::seven, x -> x.tear(r));
            }
        });
        Edge.says("5: NOTHING", () -> {
            Edge.found("row 5", Edge::seven, Edge.NOTHING, x -> x.tear(5));
            Edge.found("torn already", () -> {
                WellLocks x = Edge.seven();
                x.tear(2);
                return x;
            }, Edge.NOTHING, x -> x.tear(2));
        });
    }

    private static void copy() {
        Edge.says("6: n places of a ROW come to those of another one", () -> {
            WellLocks x = Edge.dry();
            x.row(5, 40);
            Edge.due("all 40", x.copy(2, 0, 5, 0, 40), 1);
            for (int i = 0; i < 40; i++) {
                Check.asks("place " + i, x, x.at(5, i), i - 20);
            }
            Edge.due("the last one to the first", x.copy(2, 39, 5, 0, 1), 1);
            Check.asks("the first", x, x.at(5, 0), 19);
            Edge.due("the first one to the last", x.copy(2, 0, 5, 39, 1), 1);
            Check.asks("the last", x, x.at(5, 39), -20);
            Check.asks("where it was", x, x.at(2, 0), -20);
            Edge.due("row 0 to row 5", x.copy(0, 0, 5, 37, 3), 1);
            Check.asks("its end", x, x.at(5, 39), 0);
            Check.asks("ahead of it", x, x.at(5, 37), 5);
        });
        Edge.says("6: (perhaps itself) .. as if taken ahead", () -> {
            WellLocks x = new WellLocks();
            Check.lay(x, 0, 1, 2, 3, 4, 5);
            Edge.due("forth", x.copy(0, 0, 0, 2, 3), 1);
            Check.rowIs("forth", x, 0, 1, 2, 1, 2, 3);
            Check.lay(x, 0, 1, 2, 3, 4, 5);
            Edge.due("back", x.copy(0, 2, 0, 0, 3), 1);
            Check.rowIs("back", x, 0, 3, 4, 5, 4, 5);
            Edge.due("onto itself", x.copy(0, 0, 0, 0, 5), 1);
            Check.rowIs("onto itself", x, 0, 3, 4, 5, 4, 5);
        });
        Edge.says("6: n places, n being 0", () -> {
            WellLocks x = Edge.dry();
            Edge.due("of none to none", x.copy(1, 0, 1, 0, 0), 1);
            Edge.due("behind the ends", x.copy(0, 3, 2, 40, 0), 1);
            Edge.due("at the beginnings", x.copy(0, 0, 2, 0, 0), 1);
            Edge.due("nothing came", x.digest(), Edge.dry().digest());
        });
    }

    private static void copyRefused() {
        Edge.says("6: BAD", () -> {
            for (int r : Edge.outside(0, 5)) {
                Edge.bad("from row " + r, Edge::seven, x -> x.copy(r, 0, 2, 0, 1));
                Edge.bad("to row " + r, Edge::seven, x -> x.copy(0, 0, r, 0, 1));
                Edge.bad("ahead of SIZE, from " + r, Edge::seven, x -> x.copy(r, 0, 2, 0, -1));
                Edge.bad("ahead of SIZE, to " + r, Edge::seven, x -> x.copy(0, 0, r, 0, MIN));
                Edge.bad("ahead of NOTHING, from " + r, Edge::seven, x -> x.copy(r, 0, 4, 0, 1));
                Edge.bad("ahead of NOTHING, to " + r, Edge::seven, x -> x.copy(4, 0, r, 0, 1));
                Edge.bad("ahead of BEYOND, to " + r, Edge::seven, x -> x.copy(0, 3, r, 0, 1));
            }
        });
        Edge.says("6: SIZE: n below 0", () -> {
            Edge.found("-1", Edge::seven, Edge.SIZE, x -> x.copy(0, 1, 2, 1, -1));
            Edge.found("the least", Edge::seven, Edge.SIZE, x -> x.copy(0, 1, 2, 1, MIN));
            Edge.found("ahead of NOTHING", Edge::seven, Edge.SIZE, x -> x.copy(4, 0, 5, 0, -1));
            Edge.found("ahead of BEYOND", Edge::seven, Edge.SIZE, x -> x.copy(0, -1, 2, 41, -1));
        });
        Edge.says("6: NOTHING: either", () -> {
            Edge.found("from", Edge::seven, Edge.NOTHING, x -> x.copy(4, 0, 0, 0, 1));
            Edge.found("to", Edge::seven, Edge.NOTHING, x -> x.copy(0, 0, 4, 0, 1));
            Edge.found("both", Edge::seven, Edge.NOTHING, x -> x.copy(4, 0, 4, 0, 0));
            Edge.found("from, ahead of BEYOND", Edge::seven, Edge.NOTHING, x -> x.copy(4, 0, 0, 3, 1));
            Edge.found("to, ahead of BEYOND", Edge::seven, Edge.NOTHING, x -> x.copy(0, -1, 4, 0, 1));
        });
        Edge.says("6: BEYOND: not so many there", () -> {
            Edge.found("from place 3", Edge::seven, Edge.BEYOND, x -> x.copy(0, 3, 2, 0, 1));
            Edge.found("one too many from", Edge::seven, Edge.BEYOND, x -> x.copy(0, 0, 2, 0, 4));
            Edge.found("to place 40", Edge::seven, Edge.BEYOND, x -> x.copy(0, 0, 2, 40, 1));
            Edge.found("one too many to", Edge::seven, Edge.BEYOND, x -> x.copy(0, 0, 2, 38, 3));
            Edge.found("41", Edge::seven, Edge.BEYOND, x -> x.copy(2, 0, 2, 0, 41));
            Edge.found("none, from place 4 of 3", Edge::seven, Edge.BEYOND, x -> x.copy(0, 4, 2, 0, 0));
            Edge.found("none, to place 41 of 40", Edge::seven, Edge.BEYOND, x -> x.copy(0, 0, 2, 41, 0));
            Edge.found("none, from place -1", Edge::seven, Edge.BEYOND, x -> x.copy(0, -1, 2, 0, 0));
            Edge.found("none, to place -1", Edge::seven, Edge.BEYOND, x -> x.copy(0, 0, 2, -1, 0));
            Edge.found("from none", Edge::seven, Edge.BEYOND, x -> x.copy(1, 0, 2, 0, 1));
        });
        Edge.says("6: BEYOND, the least and the greatest ints", () -> {
            for (int far : new int[] {MIN, MIN + 1, -1, MAX - 1, MAX}) {
                Edge.found("from " + far, Edge::seven, Edge.BEYOND, x -> x.copy(0, far, 2, 0, 1));
                Edge.found("to " + far, Edge::seven, Edge.BEYOND, x -> x.copy(0, 0, 2, far, 1));
                Edge.found("from, as many, " + far, Edge::seven, Edge.BEYOND, x -> x.copy(0, far, 2, 0, MAX));
                Edge.found("to, as many, " + far, Edge::seven, Edge.BEYOND, x -> x.copy(0, 0, 2, far, MAX));
            }
            Edge.found("as many", Edge::seven, Edge.BEYOND, x -> x.copy(2, 0, 2, 0, MAX));
        });
    }

    private static void meanIs(int want, int... values) {
        WellLocks x = new WellLocks();
        Check.lay(x, 5, values);
        Check.asks("mean", x, x.mean(5), want);
    }

    private static int[] forty(int v) {
        int[] values = new int[40];
        java.util.Arrays.fill(values, v);
        return values;
    }

    private static void mean() {
        Edge.says("7: The mean of a ROW's ints, cut, told by asked(): 1", () -> {
            meanIs(MIN, MIN);
            meanIs(MAX, MAX);
            meanIs(0, 1, 0);
            meanIs(0, -1, 0);
            meanIs(1, 2, 1);
            meanIs(-1, -2, -1);
            meanIs(0, MIN, MAX);
            meanIs(MAX, forty(MAX));
            meanIs(MIN, forty(MIN));
            int[] nearly = forty(1);
            nearly[0] = 0;
            meanIs(0, nearly);
            nearly[0] = 1;
            meanIs(1, nearly);
        });
        Edge.says("7: BAD", () -> {
            for (int r : Edge.outside(0, 5)) {
                Edge.bad("row " + r, Edge::seven, x -> x.mean(r));
            }
        });
        Edge.says("7: NOTHING", () -> Edge.found("row 4", Edge::seven, Edge.NOTHING, x -> x.mean(4)));
        Edge.says("7: NOUGHT", () -> Edge.found("row of none", Edge::seven, Edge.NOUGHT, x -> x.mean(1)));
    }
}
