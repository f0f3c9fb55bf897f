/** Promises 20 to 24, and what OPENS the WELL: the edges, a test for each sentence that names one. */
public final class EdgesOfOpeningTest {
    private static final String PLAIN = "h1h1h1h1h1h1h1";

    public static void main(String[] args) {
        weight();
        weightOpens();
        rust();
        opens();
        must();
        holds();
        part();
        partRefused();
        aside();
        Check.end();
    }

    private static void weighs(WellLocks x, int set, int weight, int opens) {
        Edge.due("weight of " + set, x.weight(set), weight);
        Edge.due("whether " + set + " OPENS", x.asked(), opens);
    }

    private static void weight() {
        Edge.says("20: The WEIGHT of a set", () -> {
            WellLocks x = Check.wellOf("q9990m1m1m1m1m1m1m1");
            weighs(x, 0, 0, 0);
            weighs(x, 1, 3, 0);
            weighs(x, 64, 3, 0);
            weighs(x, 127, 21, 1);
            weighs(Edge.one(), 0, 0, 0);
            weighs(Edge.one(), 1, 1, 1);
        });
        Edge.says("a set has the WEIGHT of all keys that these HOLD", () -> {
            WellLocks x = Check.wellOf("q9990" + PLAIN);
            for (int key = 0; key < 6; key++) {
                x.pledge(key, 6);
            }
            weighs(x, 64, 7, 0);
            weighs(x, 63, 0, 0);
            weighs(x, 127, 7, 0);
        });
        Edge.says("20: BAD", () -> {
            for (int set : Edge.outside(0, 127)) {
                Edge.bad("of seven, " + set, Edge::seven, x -> x.weight(set));
            }
            for (int set : Edge.outside(0, 1)) {
                Edge.bad("of one, " + set, Edge::one, x -> x.weight(set));
            }
            for (int set : Edge.outside(0, 0)) {
                Edge.bad("no HOUSES, " + set, Edge::dry, x -> x.weight(set));
            }
        });
    }

    private static void weightOpens() {
        Edge.says("It OPENS the WELL, if that is as much as told or more", () -> {
            for (int need = 1; need <= 7; need++) {
                WellLocks x = Check.wellOf("q" + need + "990" + PLAIN);
                for (int many = 0; many <= 7; many++) {
                    weighs(x, (1 << many) - 1, many, many >= need ? 1 : 0);
                }
            }
            WellLocks x = Check.wellOf("q9990m1m1m1d1");
            weighs(x, 7, 9, 1);
            weighs(x, 11, 8, 0);
            weighs(x, 15, 11, 1);
        });
        Edge.says("and no two of it have a FEUD", () -> {
            WellLocks x = Check.wellOf("q1990" + PLAIN + "x06x12");
            weighs(x, 65, 2, 0);
            weighs(x, 64, 1, 1);
            weighs(x, 1, 1, 1);
            weighs(x, 6, 2, 0);
            weighs(x, 67, 3, 0);
            weighs(x, 66, 2, 1);
            weighs(x, 127, 7, 0);
        });
        Edge.says("a FEUD is of those that are there, not of whose keys they HOLD", () -> {
            WellLocks x = Check.wellOf("q2990h1h1h1x01");
            x.pledge(0, 2);
            x.pledge(1, 2);
            weighs(x, 4, 3, 1);
            weighs(x, 7, 3, 0);
        });
        Edge.says("(without HOUSES nothing does)", () -> {
            weighs(new WellLocks(), 0, 0, 0);
            weighs(Edge.dry(), 0, 0, 0);
        });
    }

    private static void rust() {
        Edge.says("a RUSTY lock counts 1 as well, if its key is not there, on DAYS that 3 divides", () -> {
            WellLocks x = Check.wellOf("q1990r1h1");
            for (int day = 0; day <= 7; day++) {
                int rust = day % 3 == 0 ? 1 : 0;
                weighs(x, 0, rust, rust);
                weighs(x, 1, 1, 1);
                weighs(x, 2, 1 + rust, 1);
                weighs(x, 3, 2, 1);
                x.day();
            }
        });
        Edge.says("if its key is not there: pledged to one who is there, to one who is not", () -> {
            WellLocks x = Check.wellOf("q1990r1h1h1");
            x.pledge(0, 1);
            weighs(x, 1, 1, 1);
            weighs(x, 2, 2, 1);
            weighs(x, 4, 2, 1);
            x.day();
            weighs(x, 1, 0, 0);
            weighs(x, 2, 2, 1);
            weighs(x, 4, 1, 1);
        });
        Edge.says("RUSTY locks, as many as seven", () -> {
            WellLocks x = Check.wellOf("q7990r1r1r1r1r1r1r1");
            weighs(x, 0, 7, 1);
            weighs(x, 127, 7, 1);
            weighs(x, 5, 7, 1);
            x.day();
            weighs(x, 0, 0, 0);
            weighs(x, 5, 2, 0);
            weighs(x, 127, 7, 1);
        });
    }

    private static void opensIs(WellLocks x, int many, int fewest) {
        Check.tells("opens", x, x.opens(), many, 1);
        Edge.due("the first of the fewest", x.asked(), fewest);
    }

    private static void opens() {
        Edge.says("21: How many sets (of all, the empty one, too) OPEN it, told by upper() (lower() is 1)", () -> {
            opensIs(Check.wellOf("q1990r1h1h1h1h1h1h1"), 128, 0);
            opensIs(Check.wellOf("q1990" + PLAIN), 127, 1);
            opensIs(Check.wellOf("q7990" + PLAIN), 1, 127);
            opensIs(Edge.one(), 1, 1);
            opensIs(Check.wellOf("q1990r1"), 2, 0);
        });
        Edge.says("21: the first of the fewest HOUSES by asked() (bits; the least number)", () -> {
            opensIs(Check.wellOf("q2990h1h1h1d1h1h1d1"), 122, 8);
            opensIs(Check.wellOf("q2990h1h1h1x01x02"), 1, 6);
            opensIs(Check.wellOf("q3990h1h1h1h1x01"), 2, 13);
        });
        Edge.says("21: NONE", () -> {
            opensIs(Check.wellOf("q8990" + PLAIN), 0, Edge.NONE);
            opensIs(Check.wellOf("q2990h1h1x01"), 0, Edge.NONE);
            opensIs(new WellLocks(), 0, Edge.NONE);
            opensIs(Edge.dry(), 0, Edge.NONE);
        });
        Edge.says("21: lower() is 1, behind another one", () -> {
            WellLocks x = Check.wellOf("q1990h1h1");
            x.odds(5);
            opensIs(x, 3, 1);
        });
    }

    private static void mustIs(String signs, int all, int any) {
        WellLocks x = Check.wellOf(signs);
        Edge.due("must of " + signs, x.must(), all);
        Edge.due("in one at least", x.asked(), any);
    }

    private static void must() {
        Edge.says("22: HOUSES (bits) that are in each set that OPENS it; in one at least by asked()", () -> {
            mustIs("q7990" + PLAIN, 127, 127);
            mustIs("q6990" + PLAIN, 0, 127);
            mustIs("q1990h1", 1, 1);
            mustIs("q1990r1", 0, 1);
            mustIs("q1990h1h1x01", 0, 3);
            mustIs("q2990h1h1h1x01", 4, 7);
            mustIs("q3990h1h1d1x02", 6, 6);
        });
        Edge.says("22: STATE: no set OPENS it", () -> {
            Edge.state("too little WEIGHT", Edge.well("q8990" + PLAIN), WellLocks::must);
            Edge.state("FEUDS", Edge.well("q2990h1h1x01"), WellLocks::must);
            Edge.state("no HOUSES", Edge::fresh, WellLocks::must);
            Edge.state("no HOUSES, rows", Edge::dry, WellLocks::must);
            Edge.state("an odd DAY", () -> {
                WellLocks x = Check.wellOf("q1990c1s1");
                x.opens();
                x.day();
                return x;
            }, WellLocks::must);
        });
    }

    private static void holdsIs(String signs, int... want) {
        WellLocks x = Check.wellOf(signs);
        for (int i = 0; i < want.length; i++) {
            Edge.due("holds of " + i + " in " + signs, x.holds(i), want[i]);
        }
    }

    private static void holds() {
        Edge.says("23: How many sets there are that have a HOUSE, OPEN it, and do not without that HOUSE", () -> {
            holdsIs("q1990" + PLAIN, 1, 1, 1, 1, 1, 1, 1);
            holdsIs("q7990" + PLAIN, 1, 1, 1, 1, 1, 1, 1);
            holdsIs("q4990" + PLAIN, 20, 20, 20, 20, 20, 20, 20);
            holdsIs("q8990" + PLAIN, 0, 0, 0, 0, 0, 0, 0);
            holdsIs("q2990d1h1h1", 3, 1, 1);
            holdsIs("q1990r1h1", 0, 0);
            holdsIs("q2990r1h1", 0, 2);
            holdsIs("q1990h1h1x01", 1, 1);
            holdsIs("q2990h1h1x01", 0, 0);
            holdsIs("q1990h1", 1);
        });
        Edge.says("23: BAD", () -> {
            for (int i : Edge.outside(0, 6)) {
                Edge.bad("of seven, " + i, Edge::seven, x -> x.holds(i));
            }
            for (int i : Edge.outside(0, 0)) {
                Edge.bad("of one, " + i, Edge::one, x -> x.holds(i));
            }
            Edge.bad("no HOUSES", Edge::dry, x -> x.holds(0));
        });
    }

    private static void partIs(WellLocks x, int i, long upper, long lower) {
        Check.tells("part of " + i, x, x.part(i), upper, lower);
    }

    private static void part() {
        Edge.says("24: in how many of all orders the WEIGHT is first enough by it, by all these orders", () -> {
            partIs(Edge.one(), 0, 1, 1);
            for (int need = 1; need <= 7; need++) {
                WellLocks x = Check.wellOf("q" + need + "990" + PLAIN);
                for (int i = 0; i < 7; i++) {
                    partIs(x, i, 1, 7);
                }
            }
            // A plain one is it behind both smiths and two others: 6 sets of 24 by 2 of 5040 orders.
            WellLocks x = Check.wellOf("q9990m1h1h1m1h1h1h1");
            partIs(x, 1, 2, 35);
            partIs(x, 6, 2, 35);
            partIs(x, 0, 5, 14);
            partIs(x, 3, 5, 14);
        });
        Edge.says("24: (FEUDS aside)", () -> {
            WellLocks x = Check.wellOf("q2990h1h1x01");
            partIs(x, 0, 1, 2);
            partIs(x, 1, 1, 2);
        });
        Edge.says("24: (none is, if it is enough without anybody)", () -> {
            WellLocks x = Check.wellOf("q1990r1h1");
            partIs(x, 0, 0, 1);
            partIs(x, 1, 0, 1);
            x.day();
            partIs(x, 0, 1, 2);
            partIs(x, 1, 1, 2);
        });
        Edge.says("24: a RUSTY lock that counts already: its key adds nothing", () -> {
            WellLocks x = Check.wellOf("q2990r1h1");
            partIs(x, 0, 0, 1);
            partIs(x, 1, 1, 1);
        });
        Edge.says("24: never enough: 0 by 1", () -> {
            WellLocks x = Check.wellOf("q8990" + PLAIN);
            partIs(x, 0, 0, 1);
            partIs(x, 6, 0, 1);
            partIs(Check.wellOf("q2990h1"), 0, 0, 1);
        });
        Edge.says("24: by the keys that it HOLDS", () -> {
            WellLocks x = Check.wellOf("q2990h1h1h1");
            x.pledge(0, 1);
            partIs(x, 0, 0, 1);
            partIs(x, 1, 1, 1);
            partIs(x, 2, 0, 1);
        });
    }

    private static void partRefused() {
        Edge.says("24: BAD", () -> {
            for (int i : Edge.outside(0, 6)) {
                Edge.bad("of seven, " + i, Edge::seven, x -> x.part(i));
            }
            for (int i : Edge.outside(0, 0)) {
                Edge.bad("of one, " + i, Edge::one, x -> x.part(i));
            }
            Edge.bad("no HOUSES", Edge::dry, x -> x.part(0));
        });
    }

    private static void aside() {
        Edge.says("who opens it (aside)", () -> {
            WellLocks x = Edge.brim();
            long before = x.digest();
            x.weight(127);
            x.opens();
            x.must();
            x.holds(3);
            x.part(3);
            Edge.due("as it was", x.digest(), before);
            Edge.due("no FINDING", x.finding(), Edge.brim().finding());
        });
    }
}
