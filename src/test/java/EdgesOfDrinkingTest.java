/** Promises 25 to 28: the edges of drinking and of what the frogs tell, a test for each sentence that names one. */
public final class EdgesOfDrinkingTest {
    private static final int[] NOBODY = {};

    public static void main(String[] args) {
        drink();
        drinkNone();
        drinkRow();
        drinkRefused();
        best();
        bestOrder();
        bestRefused();
        ration();
        frogs();
        frogsOfNone();
        frogsRefused();
        Check.end();
    }

    private static void drinkIs(WellLocks x, int... sets) {
        Edge.due("drink", x.drink(5), sets.length);
        Check.rowIs("drink", x, 5, sets);
    }

    private static void drinkIs(String signs, int... sets) {
        drinkIs(Check.wellOf(signs), sets);
    }

    private static void drink() {
        Edge.says("25: The fewest MEETINGS in which each HOUSE that WANTS something yet is once at least", () -> {
            drinkIs("q1990h1", 1);
            drinkIs("q1990h1h1h1h1h1h1h1", 127);
            drinkIs("q7990h1h1h1h1h1h1h1", 127);
            drinkIs("q1990h1h1x01", 1, 2);
            // 0 with 3 would leave 1 and 2, who have a feud.
            drinkIs("q1990h1h1h1h1x02x12x13", 3, 12);
            drinkIs("q1990h1h1h1h1h1h1x01x02x03x04x05x12x13x14x15x23x24x25x34x35x45", 1, 2, 4, 8, 16, 32);
            drinkIs("q1990h1h1h1h1h1h1h1x01x02x03x04x05x06x12x13x14x15x16x23x24x25x26x34x35x36x45x46",
                1, 2, 4, 8, 16, 96);
        });
        Edge.says("25: the first such row of sets, rising numbers", () -> {
            drinkIs("q1990h0h0h1", 4);
            drinkIs("q2990h0h0h1", 5);
            drinkIs("q1990h1h1h1x02", 1, 6);
            drinkIs("q2990h1h1h1h1x03", 3, 12);
            drinkIs("q3990h1h1h1h1x03", 7, 14);
        });
        Edge.says("25: each HOUSE that WANTS something yet: not HEADS 0, a SMITH, a SWORN one of one", () -> {
            drinkIs("q1990h0m9s1h1", 8);
            drinkIs("q1990h0m9s2h1x23", 4, 8);
            drinkIs("q1990h0m9s1", NOBODY);
        });
        Edge.says("25: yet: not who drew this DAY, and again the next one", () -> {
            WellLocks x = Edge.laid(Edge.well("q1990h1h1x01"), 0, 0).make();
            x.meet(0);
            drinkIs(x, 2);
            Check.lay(x, 0, 1);
            x.meet(0);
            drinkIs(x, NOBODY);
            x.day();
            drinkIs(x, 1, 2);
        });
        Edge.says("25: yet: who drew too little", () -> {
            WellLocks x = Edge.laid(Edge.well("q1020h3"), 0, 0).make();
            x.meet(0);
            drinkIs(x, 1);
        });
    }

    private static void drinkNone() {
        Edge.says("25: none WANTS anything: 0, and a ROW of none", () -> {
            drinkIs("q9990h0", NOBODY);
            drinkIs("q9990m9", NOBODY);
            WellLocks x = Check.wellOf("q9990h0");
            Edge.due("drink", x.drink(0), 0);
            Edge.due("a ROW is there", x.count(8), 1);
        });
        Edge.says("25: NONE: by none", () -> {
            Edge.refused("too little WEIGHT", Edge.well("q2990h1"), Edge.NONE, x -> x.drink(0));
            Edge.refused("a ROW stays", Edge.laid(Edge.well("q2990h1"), 0, 7, 8), Edge.NONE, x -> x.drink(0));
            Edge.refused("one cannot", Edge.well("q2990h1h1h1x12x02"), Edge.NONE, x -> x.drink(0));
            Edge.refused("an odd DAY", () -> {
                WellLocks x = Check.wellOf("q1990c1");
                x.day();
                return x;
            }, Edge.NONE, x -> x.drink(0));
        });
        Edge.says("25: (sets that OPEN it, this DAY)", () -> {
            WellLocks x = Check.wellOf("q2990c1h1h1x12");
            drinkIs(x, 3, 5);
            x.day();
            Edge.due("an odd DAY", x.drink(0), Edge.NONE);
        });
    }

    private static void drinkRow() {
        Edge.says("25: comes to a ROW (anew): how many", () -> {
            for (int r = 0; r <= 5; r++) {
                WellLocks x = Check.wellOf("q1990h1h1x01");
                Edge.due("missing", x.drink(r), 2);
                Check.rowIs("missing", x, r, 1, 2);
                x.row(r, 40);
                Edge.due("longer", x.drink(r), 2);
                Check.rowIs("longer", x, r, 1, 2);
                x.row(r, 0);
                Edge.due("shorter", x.drink(r), 2);
                Check.rowIs("shorter", x, r, 1, 2);
            }
        });
        Edge.says("drinking (aside)", () -> {
            WellLocks x = Edge.brim();
            x.drink(0);
            x.best(32, 0);
            x.ration();
            x.frogs(0);
            Check.lay(x, 0, 5, 2, 0);
            Edge.due("but the ROW as it was", x.digest(), Edge.brim().digest());
        });
    }

    private static void drinkRefused() {
        Edge.says("25: BAD", () -> {
            for (int r : Edge.outside(0, 5)) {
                Edge.bad("row " + r, Edge::seven, x -> x.drink(r));
                Edge.bad("ahead of STATE, " + r, Edge::dry, x -> x.drink(r));
            }
        });
        Edge.says("25: STATE: no HOUSES", () -> {
            Edge.state("row 0", Edge::dry, x -> x.drink(0));
            Edge.state("row 5, missing", Edge::fresh, x -> x.drink(5));
        });
    }

    private static void bestIs(WellLocks x, int set, int served, int... order) {
        Edge.due("best of " + set, x.best(set, 5), served);
        Check.rowIs("best of " + set, x, 5, order);
    }

    private static void bestIs(String signs, int set, int served, int... order) {
        bestIs(Check.wellOf(signs), set, served, order);
    }

    private static void best() {
        Edge.says("26: The most HOUSES of a set that get all that they WANT yet this DAY", () -> {
            bestIs("q1990h9", 1, 1, 0);
            bestIs("q1090h9", 1, 1, 0);
            bestIs("q1080h9", 1, 0, 0);
            bestIs("q1280h1h2h3h4h5h6h7", 127, 7, 0, 1, 2, 3, 4, 5, 6);
            bestIs("q1270h1h2h3h4h5h6h7", 127, 6, 0, 1, 2, 3, 4, 5, 6);
            bestIs("q1270h7h6h5h4h3h2h1", 127, 6, 0, 1, 2, 3, 4, 5, 6);
            bestIs("q1210h7h6h5h4h3h2h1", 127, 6, 1, 2, 3, 4, 5, 6, 0);
            bestIs("q1200h7h6h5h4h3h2h1", 127, 5, 0, 1, 3, 5, 6, 2, 4);
            bestIs("q1010h7h6h5h4h3h2h1", 127, 1, 6, 0, 1, 2, 3, 4, 5);
        });
        Edge.says("26: (something): who WANTS nothing is none of them", () -> {
            bestIs("q1990h0m9s1h2", 15, 1, 0, 1, 2, 3);
            bestIs("q1990h0m9s1", 7, 0, 0, 1, 2);
        });
        Edge.says("26: a dry WELL", () -> {
            bestIs("q1000h3h1h0", 7, 0, 0, 1, 2);
            bestIs("q1000h3h1h0", 6, 0, 1, 2);
        });
        Edge.says("26: a set of none, by a RUSTY lock", () -> bestIs("q1990r3", 0, 0, NOBODY));
        Edge.says("26: yet this DAY", () -> {
            WellLocks x = Edge.laid(Edge.well("q1104h3h4h6"), 0, 0).make();
            x.meet(0);
            // Seven are left, for 0, 4, 6.
            bestIs(x, 7, 1, 0, 1, 2);
            bestIs(x, 5, 1, 0, 2);
            bestIs(x, 1, 0, 0);
        });
    }

    private static void bestOrder() {
        Edge.says("26: the first such order", () -> {
            bestIs("q1050h4h1h4", 7, 2, 0, 1, 2);
            bestIs("q1050h5h1h4", 7, 2, 1, 2, 0);
            bestIs("q1060h5h1h4", 7, 2, 0, 1, 2);
            bestIs("q1060h5h0h3h3", 15, 2, 1, 2, 3, 0);
            bestIs("q1030h5h0h3h3", 15, 1, 1, 2, 0, 3);
        });
        Edge.says("26: comes to a ROW (anew)", () -> {
            for (int r = 0; r <= 5; r++) {
                WellLocks x = Check.wellOf("q1050h5h1");
                x.best(3, r);
                Check.rowIs("missing", x, r, 0, 1);
                x.row(r, 40);
                x.best(2, r);
                Check.rowIs("longer", x, r, 1);
                x.best(3, r);
                Check.rowIs("shorter", x, r, 0, 1);
            }
        });
    }

    private static void bestRefused() {
        Edge.says("26: BAD", () -> {
            for (int set : Edge.outside(0, 127)) {
                Edge.bad("set " + set, Edge::seven, x -> x.best(set, 0));
                Edge.bad("set " + set + ", no row", Edge::seven, x -> x.best(set, 6));
            }
            for (int r : Edge.outside(0, 5)) {
                Edge.bad("row " + r, Edge::seven, x -> x.best(32, r));
                Edge.bad("ahead of STATE, row " + r, Edge::seven, x -> x.best(3, r));
                Edge.bad("no HOUSES, row " + r, Edge::dry, x -> x.best(0, r));
            }
            Edge.bad("no HOUSES, set 1", Edge::dry, x -> x.best(1, 0));
            Edge.bad("of one, set 2", Edge::one, x -> x.best(2, 0));
        });
        Edge.says("26: STATE: it does not OPEN it", () -> {
            Edge.state("a FEUD", Edge::seven, x -> x.best(127, 0));
            Edge.state("too little WEIGHT", Edge::seven, x -> x.best(16, 0));
            Edge.state("nobody", Edge::seven, x -> x.best(0, 5));
            Edge.state("no HOUSES", Edge::dry, x -> x.best(0, 0));
        });
    }

    private static void rationIs(WellLocks x, int share, int together) {
        Edge.due("ration", x.ration(), share);
        Edge.due("together", x.asked(), together);
    }

    private static void rationIs(String signs, int share, int together) {
        rationIs(Check.wellOf(signs), share, together);
    }

    private static void ration() {
        Edge.says("27: the greatest number (0 .. 99) of buckets for each", () -> {
            rationIs("q1000h1", 0, 0);
            rationIs("q1010h1", 99, 1);
            rationIs("q1080h9", 8, 8);
            rationIs("q1090h9", 99, 9);
            rationIs("q1990h9h9h9h9h9h9h9", 99, 63);
            rationIs("q1630h9h9h9h9h9h9h9", 99, 63);
            rationIs("q1620h9h9h9h9h9h9h9", 8, 56);
            rationIs("q1070h9h9h9h9h9h9h9", 1, 7);
            rationIs("q1060h9h9h9h9h9h9h9", 0, 0);
        });
        Edge.says("27: all that WANT something yet, each that many at most", () -> {
            rationIs("q1070h1h9h9", 3, 7);
            rationIs("q1060h1h9h9", 2, 5);
            rationIs("q1080s9h9", 4, 8);
            rationIs("q1090s9h9", 5, 9);
            rationIs("q1000m9h0s1", 99, 0);
        });
        Edge.says("27: yet", () -> {
            WellLocks x = Edge.laid(Edge.well("q1090h5h9"), 0, 0).make();
            x.meet(0);
            rationIs(x, 4, 4);
            x.day();
            rationIs(x, 2, 4);
        });
        Edge.says("27: whether they could OPEN it or not", () -> rationIs("q9990h3h3x01", 99, 6));
        Edge.says("27: STATE: no HOUSES", () -> {
            Edge.state("new", Edge::fresh, WellLocks::ration);
            Edge.state("with rows", Edge::dry, WellLocks::ration);
        });
    }

    private static void frogsAre(WellLocks x, int n, int many, int all) {
        Check.tells("frogs " + n, x, x.frogs(n), many, 1);
        Edge.due("in all of these, " + n, x.asked(), all);
    }

    private static void frogs() {
        Edge.says("28: The WATER is n (0 .. 99) less: how many sets it can have been; who was in all of these", () -> {
            WellLocks x = Check.wellOf("q1990h9h9h9h9h9h9h9");
            frogsAre(x, 0, 0, 0);
            frogsAre(x, 9, 7, 0);
            frogsAre(x, 54, 7, 0);
            frogsAre(x, 63, 1, 127);
            frogsAre(x, 62, 0, 0);
            frogsAre(x, 64, 0, 0);
            frogsAre(x, 99, 0, 0);
        });
        Edge.says("28: no more than there is", () -> {
            WellLocks x = Check.wellOf("q1200h9h9h9h9h9h9h9");
            frogsAre(x, 18, 21, 0);
            frogsAre(x, 20, 99, 0);
            frogsAre(x, 21, 0, 0);
            frogsAre(Check.wellOf("q1000h9h9"), 0, 3, 0);
        });
        Edge.says("28: of a set that OPENS it", () -> {
            WellLocks x = Check.wellOf("q2990h1h2h3x01");
            frogsAre(x, 3, 0, 0);
            frogsAre(x, 4, 1, 5);
            frogsAre(x, 5, 1, 6);
            frogsAre(x, 6, 0, 0);
        });
        Edge.says("28: all that came drew (what they WANT yet)", () -> {
            WellLocks x = Edge.laid(Edge.well("q1990h1h2h4"), 0, 2).make();
            x.meet(0);
            frogsAre(x, 0, 1, 4);
            frogsAre(x, 3, 2, 3);
            frogsAre(x, 7, 0, 0);
        });
    }

    private static void frogsOfNone() {
        Edge.says("28: the empty set, too, if it OPENS it", () -> {
            frogsAre(Check.wellOf("q1990r3h0"), 0, 2, 0);
            frogsAre(Check.wellOf("q1990r3"), 0, 1, 0);
            frogsAre(Check.wellOf("q1990r3"), 3, 1, 1);
        });
        Edge.says("28: (0: there are none)", () -> {
            frogsAre(Check.wellOf("q2990h1"), 1, 0, 0);
            frogsAre(new WellLocks(), 0, 0, 0);
            frogsAre(Edge.dry(), 99, 0, 0);
        });
    }

    private static void frogsRefused() {
        Edge.says("28: BAD", () -> {
            for (int n : Edge.outside(0, 99)) {
                Edge.bad("of seven, " + n, Edge::seven, x -> x.frogs(n));
                Edge.bad("no HOUSES, " + n, Edge::dry, x -> x.frogs(n));
            }
        });
    }
}
