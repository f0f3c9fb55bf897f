/** Promises 12 and 13, and KINDS of HOUSES: the edges, a test for each sentence that names one. */
public final class EdgesOfHousesTest {
    private static final int[] SEVEN_KINDS = {0, 1, 2, 3, 4, 5, 0};

    public static void main(String[] args) {
        house();
        houseDraws();
        houseRefused();
        weights();
        wants();
        markOfDays();
        markOfDoubles();
        markOfSwornAndSmiths();
        markRefused();
        Check.end();
    }

    private static WellLocks newSeven() {
        return Check.wellOf(Edge.SEVEN);
    }

    private static void house() {
        Edge.says("12: Of a HOUSE: 0 the KIND, 1 HEADS .. told by asked(): 1", () -> {
            WellLocks x = newSeven();
            int[] heads = {4, 3, 5, 2, 7, 6, 1};
            for (int i = 0; i < 7; i++) {
                Check.asks("KIND of " + i, x, x.house(i, 0), SEVEN_KINDS[i]);
                Check.asks("HEADS of " + i, x, x.house(i, 1), heads[i]);
            }
            x = Check.wellOf("q1000h0h9");
            Check.asks("no HEADS", x, x.house(0, 1), 0);
            Check.asks("nine HEADS", x, x.house(1, 1), 9);
        });
        Edge.says("12: 4 who HOLDS its key (each its own at first)", () -> {
            WellLocks x = newSeven();
            for (int i = 0; i < 7; i++) {
                Check.asks("of " + i, x, x.house(i, 4), i);
            }
            x.pledge(0, 6);
            x.pledge(6, 0);
            Check.asks("of 0", x, x.house(0, 4), 6);
            Check.asks("of 6", x, x.house(6, 4), 0);
            Check.asks("of 1", x, x.house(1, 4), 1);
        });
        Edge.says("12: 6 with whom it has a FEUD (bits)", () -> {
            WellLocks x = newSeven();
            int[] feuds = {2, 1, 0, 64, 0, 0, 8};
            for (int i = 0; i < 7; i++) {
                Check.asks("of " + i, x, x.house(i, 6), feuds[i]);
            }
            x = Check.wellOf("q1000h1h1h1h1h1h1h1x06x16x26x36x46x56");
            Check.asks("with all others", x, x.house(6, 6), 63);
            Check.asks("with the last", x, x.house(0, 6), 64);
        });
    }

    private static void houseDraws() {
        Edge.says("12: 2 what it drew this DAY, 3 what it drew in all", () -> {
            WellLocks x = Check.wellOf("q1209h9h9");
            Check.lay(x, 0, 1, 0);
            Check.asks("before", x, x.house(1, 2), 0);
            x.meet(0);
            Check.asks("this DAY", x, x.house(1, 2), 9);
            Check.asks("in all", x, x.house(1, 3), 9);
            x.meet(0);
            Check.asks("no more this DAY", x, x.house(1, 2), 9);
            x.day();
            Check.asks("forgotten", x, x.house(1, 2), 0);
            Check.asks("not forgotten", x, x.house(1, 3), 9);
            x.meet(0);
            Check.asks("the next DAY", x, x.house(1, 2), 9);
            Check.asks("the next DAY, of what there is", x, x.house(0, 2), 2);
            Check.asks("in all then", x, x.house(1, 3), 18);
            Check.asks("in all then", x, x.house(0, 3), 11);
        });
        Edge.says("12: 3 what it drew in all, the most that there can be", () -> {
            WellLocks x = Check.wellOf("q1999h9");
            x.row(0, 1);
            for (int d = 0; d < 20; d++) {
                Edge.due("drawn", x.meet(0), 9);
                Edge.due("WATER", x.day(), 99);
            }
            Check.asks("in all", x, x.house(0, 3), 180);
        });
    }

    private static void houseRefused() {
        Edge.says("12: BAD", () -> {
            for (int i : Edge.outside(0, 6)) {
                Edge.bad("house " + i, Edge::seven, x -> x.house(i, 0));
                Edge.bad("what " + i, Edge::seven, x -> x.house(0, i));
                Edge.bad("neither, " + i, Edge::seven, x -> x.house(i, i));
            }
            for (int i : Edge.outside(0, 0)) {
                Edge.bad("of one, house " + i, Edge::one, x -> x.house(i, 0));
            }
            for (int what = 0; what <= 6; what++) {
                int fact = what;
                Edge.bad("no HOUSES", Edge::dry, x -> x.house(0, fact));
            }
        });
    }

    private static void weights() {
        Edge.says("The WEIGHT of a key is 1; of a CHILD 0 on odd DAYS; of a DOUBLE 2; of a SMITH 1 more", () -> {
            WellLocks x = newSeven();
            int[] even = {1, 1, 1, 2, 1, 3, 1};
            int[] odd = {1, 0, 1, 2, 0, 3, 1};
            for (int day = 0; day < 5; day++) {
                for (int i = 0; i < 7; i++) {
                    int want = day % 2 == 0 ? even[i] : odd[i];
                    Check.asks("DAY " + day + ", key of " + i, x, x.house(i, 5), want);
                }
                x.day();
            }
        });
        Edge.says("The WEIGHT of a key is of its own HOUSE's KIND, whoever HOLDS it", () -> {
            WellLocks x = newSeven();
            x.pledge(5, 1);
            x.pledge(1, 5);
            x.day();
            Check.asks("a SMITH's with a CHILD", x, x.house(5, 5), 3);
            Check.asks("a CHILD's with a SMITH", x, x.house(1, 5), 0);
            Edge.due("what the CHILD HOLDS", x.weight(2), 3);
            Edge.due("what the SMITH HOLDS", x.weight(32), 0);
        });
    }

    private static void wantsIs(String house, int want) {
        WellLocks x = Check.wellOf("q1990h0" + house);
        Check.lay(x, 0, 0, 1);
        Edge.due("drawn by " + house, x.meet(0), want);
        Check.asks("drawn by " + house, x, x.house(1, 2), want);
    }

    private static void wants() {
        Edge.says("A HOUSE WANTS as many buckets a DAY as HEADS", () -> {
            for (String letter : new String[] {"h", "c", "r", "d"}) {
                wantsIs(letter + "0", 0);
                wantsIs(letter + "1", 1);
                wantsIs(letter + "9", 9);
            }
        });
        Edge.says("a SWORN one half of these (cut)", () -> {
            int[] half = {0, 0, 1, 1, 2, 2, 3, 3, 4, 4};
            for (int heads = 0; heads <= 9; heads++) {
                wantsIs("s" + heads, half[heads]);
            }
        });
        Edge.says("a SMITH none", () -> {
            wantsIs("m0", 0);
            wantsIs("m1", 0);
            wantsIs("m9", 0);
        });
    }

    private static void markOfDays() {
        Edge.says("13: a CHILD (SWORN, too) in how many DAYS its key has WEIGHT (0, 1)", () -> {
            WellLocks x = newSeven();
            for (int day = 0; day <= 5; day++) {
                Edge.due("CHILD, DAY " + day, x.mark(1, 1), day % 2);
                Edge.due("SWORN, DAY " + day, x.mark(4, 1), day % 2);
                x.day();
            }
        });
        Edge.says("13: a RUSTY one in how many DAYS its lock counts next without its key (0 .. 2)", () -> {
            WellLocks x = newSeven();
            int[] wait = {0, 2, 1, 0, 2, 1, 0};
            for (int day = 0; day < wait.length; day++) {
                Edge.due("DAY " + day, x.mark(2, 2), wait[day]);
                x.day();
            }
        });
    }

    private static void doubleIs(String signs, int house, int want) {
        Edge.due("of " + house + " in " + signs, Check.wellOf(signs).mark(house, 3), want);
    }

    private static void markOfDoubles() {
        Edge.says("13: a DOUBLE (SMITH, too) how many other HOUSES there are without which, each alone, "
            + "all the rest do not OPEN the WELL", () -> {
            doubleIs("q1000d1", 0, 0);
            doubleIs("q9000d1", 0, 0);
            doubleIs("q9000m1", 0, 0);
            doubleIs("q2000d1h1", 0, 0);
            doubleIs("q3000d1h1", 0, 1);
            doubleIs("q3000h1m1", 1, 0);
            doubleIs("q4000h1m1", 1, 1);
            doubleIs("q9000d1h1h1h1h1h1h1", 0, 6);
            doubleIs("q8000d1h1h1h1h1h1h1", 0, 6);
            doubleIs("q7000d1h1h1h1h1h1h1", 0, 0);
            doubleIs(Edge.SEVEN, 3, 6);
            doubleIs(Edge.SEVEN, 5, 6);
            // Without itself the rest would not open it either, but it is no other house.
            doubleIs("q2000d1", 0, 0);
            doubleIs("q2000d1c1", 0, 0);
        });
        Edge.says("13: a DOUBLE .. with FEUDS: without one of the two the rest are at peace", () -> {
            doubleIs("q1000d1h1h1x12", 0, 0);
            doubleIs("q1000d1h1h1x01", 0, 1);
            doubleIs("q1000d1h1h1x01x02", 0, 2);
            doubleIs("q1000h1h1d1x01", 2, 0);
        });
    }

    private static void swornIs(int heads, int want) {
        Edge.due("of " + heads, Check.wellOf("q1000s" + heads).mark(0, 4), want);
    }

    private static void markOfSwornAndSmiths() {
        Edge.says("13: a SWORN one how many buckets it has to do without each DAY", () -> {
            int[] without = {0, 1, 1, 2, 2, 3, 3, 4, 4, 5};
            for (int heads = 0; heads <= 9; heads++) {
                swornIs(heads, without[heads]);
            }
            WellLocks x = Check.wellOf("q1990s9");
            x.row(0, 1);
            x.meet(0);
            Edge.due("also when it drew", x.mark(0, 4), 5);
            x.day();
            Edge.due("also on odd DAYS", x.mark(0, 4), 5);
        });
        Edge.says("13: a SMITH how many keys it HOLDS", () -> {
            WellLocks x = newSeven();
            Edge.due("its own", x.mark(5, 5), 1);
            x.pledge(5, 0);
            Edge.due("none", x.mark(5, 5), 0);
            for (int key = 0; key < 7; key++) {
                x.pledge(key, 5);
                Edge.due("keys up to " + key, x.mark(5, 5), key + 1);
            }
            x.undo(0);
            Edge.due("undone", x.mark(5, 5), 1);
        });
    }

    private static void markRefused() {
        Edge.says("13: BAD", () -> {
            for (int i : Edge.outside(0, 6)) {
                for (int kind = 1; kind <= 5; kind++) {
                    int of = kind;
                    Edge.bad("house " + i + ", KIND " + kind, Edge::seven, x -> x.mark(i, of));
                }
            }
            for (int kind : Edge.outside(0, 5)) {
                Edge.bad("KIND " + kind, Edge::seven, x -> x.mark(5, kind));
            }
            Edge.bad("no HOUSES", Edge::dry, x -> x.mark(0, 1));
        });
        Edge.says("13: BAD: also KIND 0", () -> {
            for (int i = 0; i < 7; i++) {
                int house = i;
                Edge.bad("house " + i, Edge::seven, x -> x.mark(house, 0));
            }
        });
        Edge.says("13: UNLIKE", () -> {
            for (int i = 0; i < 7; i++) {
                for (int kind = 1; kind <= 5; kind++) {
                    int house = i;
                    int of = kind;
                    boolean is = SEVEN_KINDS[i] == kind || i == 4 && kind == 1 || i == 5 && kind == 3;
                    if (!is) {
                        Edge.found(i + " as " + kind, Edge::seven, Edge.UNLIKE, x -> x.mark(house, of));
                    }
                }
            }
        });
        Edge.says("13: BAD ahead of UNLIKE", () -> {
            Edge.bad("house 7 as a RUSTY one", Edge::seven, x -> x.mark(7, 2));
            Edge.bad("KIND 6 of a plain HOUSE", Edge::seven, x -> x.mark(0, 6));
        });
    }
}
