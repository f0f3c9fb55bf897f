/** Promises 14 to 19: the edges of DEEDS and kept WELLS, a test for each sentence that names one. */
public final class EdgesOfDeedsTest {
    public static void main(String[] args) {
        meet();
        meetDraws();
        meetRefused();
        meetOrder();
        pledge();
        pledgeRefused();
        day();
        undo();
        undoRefused();
        keep();
        on();
        Check.end();
    }

    /** As many DEEDS as these. */
    private static Edge.Start withDeeds(String signs, int deeds) {
        return () -> {
            WellLocks x = Check.wellOf(signs);
            while (x.count(2) < deeds) {
                x.day();
            }
            return x;
        };
    }

    private static void meet() {
        Edge.says("14: a MEETING of one, of all seven", () -> {
            WellLocks x = Check.wellOf("q7990h1h2h3h4h5h6h7");
            Check.lay(x, 5, 6, 5, 4, 3, 2, 1, 0);
            Edge.due("seven", x.meet(5), 28);
            Edge.due("DEEDS", x.count(2), 1);
            Check.asks("the last that came", x, x.house(0, 2), 1);
            Check.asks("the first that came", x, x.house(6, 2), 7);
            x = Edge.one();
            x.row(0, 1);
            Edge.due("one", x.meet(0), 3);
        });
        Edge.says("14: a MEETING of none, if a RUSTY lock is enough", () -> {
            WellLocks x = Check.wellOf("q1990r3");
            x.row(0, 0);
            Edge.due("DAY 0", x.meet(0), 0);
            Edge.due("a DEED", x.count(2), 1);
            x.day();
            Edge.due("DAY 1", x.meet(0), Edge.STATE);
            x.day();
            Edge.due("DAY 2", x.meet(0), Edge.STATE);
            x.day();
            Edge.due("DAY 3", x.meet(0), 0);
        });
        Edge.says("as much as told or more", () -> {
            Edge.refused("less", Edge.laid(Edge.well("q3990h1h1h1"), 0, 0, 1), Edge.STATE, x -> x.meet(0));
            Edge.due("as much", Edge.laid(Edge.well("q3990h1h1h1"), 0, 2, 0, 1).make().meet(0), 3);
            Edge.due("more", Edge.laid(Edge.well("q3990d1m1h1"), 0, 1, 0).make().meet(0), 1);
        });
    }

    private static void meetDraws() {
        Edge.says("each in its turn draws what it WANTS yet this DAY, of what there is", () -> {
            WellLocks x = Check.wellOf("q1050h3h3h3");
            Check.lay(x, 0, 2, 0, 1);
            Edge.due("buckets drawn", x.meet(0), 5);
            Check.asks("the first", x, x.house(2, 2), 3);
            Check.asks("the second, the rest", x, x.house(0, 2), 2);
            Check.asks("the third, none", x, x.house(1, 2), 0);
            Edge.due("WATER", x.count(3), 0);
            Edge.due("of a dry WELL", x.meet(0), 0);
            Edge.due("a DEED all the same", x.count(2), 2);
        });
        Edge.says("draws of what there is: just enough, one less", () -> {
            Edge.due("just enough", Edge.laid(Edge.well("q1090h9"), 0, 0).make().meet(0), 9);
            Edge.due("one less", Edge.laid(Edge.well("q1080h9"), 0, 0).make().meet(0), 8);
            Edge.due("none", Edge.laid(Edge.well("q1000h9"), 0, 0).make().meet(0), 0);
        });
        Edge.says("what it WANTS yet this DAY: the rest, when there is more", () -> {
            WellLocks x = Check.wellOf("q1023h4h3");
            Check.lay(x, 0, 0);
            Edge.due("two of four", x.meet(0), 2);
            Edge.due("the DAY passes", x.day(), 3);
            Edge.due("three of four", x.meet(0), 3);
            x = Check.wellOf("q1309h9");
            x.row(0, 1);
            Edge.due("all of it", x.meet(0), 9);
            Edge.due("no more this DAY", x.meet(0), 0);
        });
        Edge.says("(none else does)", () -> {
            WellLocks x = Check.wellOf("q1990h3h4");
            Check.lay(x, 0, 1);
            x.meet(0);
            Check.asks("who was not there", x, x.house(0, 3), 0);
        });
    }

    private static void meetRefused() {
        Edge.says("14: BAD", () -> {
            for (int r : Edge.outside(0, 5)) {
                Edge.bad("row " + r, Edge::seven, x -> x.meet(r));
                Edge.bad("row " + r + ", no HOUSES", Edge::dry, x -> x.meet(r));
                Edge.bad("row " + r + ", 40 DEEDS", Edge::brim, x -> x.meet(r));
            }
        });
        Edge.says("14: NOTHING", () -> Edge.found("row 4", Edge::seven, Edge.NOTHING, x -> x.meet(4)));
        Edge.says("14: SIZE: more than there are HOUSES", () -> {
            Edge.found("8 of 7", Edge.laid(Edge::seven, 4, 0, 1, 2, 3, 4, 5, 6, 0), Edge.SIZE, x -> x.meet(4));
            Edge.found("40 of 7", Edge::seven, Edge.SIZE, x -> x.meet(2));
            Edge.found("2 of 1", Edge.laid(Edge::one, 0, 0, 0), Edge.SIZE, x -> x.meet(0));
        });
        Edge.says("14: UNLIKE: no HOUSE", () -> {
            for (int i : Edge.outside(0, 6)) {
                Edge.found("house " + i, Edge.laid(Edge::seven, 4, 5, i, 0), Edge.UNLIKE, x -> x.meet(4));
            }
            Edge.found("house 32", Edge.laid(Edge::seven, 4, 5, 32), Edge.UNLIKE, x -> x.meet(4));
            Edge.found("of one, house 1", Edge.laid(Edge::one, 0, 1), Edge.UNLIKE, x -> x.meet(0));
        });
        Edge.says("14: UNLIKE: one twice", () -> {
            Edge.found("beside", Edge.laid(Edge::seven, 4, 5, 5), Edge.UNLIKE, x -> x.meet(4));
            Edge.found("apart", Edge.laid(Edge::seven, 4, 6, 5, 0, 2, 4, 6), Edge.UNLIKE, x -> x.meet(4));
        });
        Edge.says("14: STATE: no HOUSES, or it does not OPEN", () -> {
            Edge.state("no HOUSES", Edge::dry, x -> x.meet(1));
            Edge.state("too little WEIGHT", Edge.laid(Edge::seven, 4, 4), x -> x.meet(4));
            Edge.state("a FEUD", Edge.laid(Edge::seven, 4, 5, 3, 6), x -> x.meet(4));
            Edge.state("nobody", Edge::seven, x -> x.meet(1));
        });
        Edge.says("14: FULL: 40 DEEDS", () -> {
            Edge.full("40", Edge::brim, x -> x.meet(0));
            WellLocks x = Edge.laid(withDeeds("q1104h3", 39), 0, 0).make();
            Edge.due("39", x.meet(0), 3);
            Edge.due("40 then", x.count(2), 40);
            Edge.due("40", x.meet(0), Edge.FULL);
        });
    }

    private static void meetOrder() {
        Edge.says("14: NOTHING ahead of STATE, FULL (In this order.)", () -> {
            Edge.found("no HOUSES", Edge::dry, Edge.NOTHING, x -> x.meet(5));
            Edge.found("40 DEEDS", Edge::brim, Edge.NOTHING, x -> x.meet(5));
        });
        Edge.says("14: SIZE ahead of UNLIKE, STATE, FULL", () -> {
            Edge.found("no HOUSE among them", Edge.laid(Edge::seven, 4, 9, 9, 9, 9, 9, 9, 9, 9), Edge.SIZE,
                x -> x.meet(4));
            Edge.found("no HOUSES", Edge.laid(Edge::dry, 4, 0), Edge.SIZE, x -> x.meet(4));
            Edge.found("40 DEEDS", Edge::brim, Edge.SIZE, x -> x.meet(2));
        });
        Edge.says("14: UNLIKE ahead of STATE, FULL", () -> {
            Edge.found("too little WEIGHT", Edge.laid(Edge::seven, 4, 4, 4), Edge.UNLIKE, x -> x.meet(4));
            Edge.found("a FEUD", Edge.laid(Edge::seven, 4, 3, 6, 7), Edge.UNLIKE, x -> x.meet(4));
            Edge.found("40 DEEDS", Edge.laid(Edge::brim, 4, 5, 5), Edge.UNLIKE, x -> x.meet(4));
        });
        Edge.says("14: STATE ahead of FULL", () -> {
            Edge.state("too little WEIGHT", Edge.laid(Edge::brim, 4, 4), x -> x.meet(4));
            Edge.state("a FEUD", Edge.laid(Edge::brim, 4, 5, 3, 6), x -> x.meet(4));
        });
    }

    private static void pledge() {
        Edge.says("15: A key is PLEDGED to another HOUSE: who HELD it", () -> {
            WellLocks x = Check.wellOf(Edge.SEVEN);
            Edge.due("the first to the last", x.pledge(0, 6), 0);
            Edge.due("the last to the first", x.pledge(6, 0), 6);
            Edge.due("on, by who HOLDS it now", x.pledge(0, 3), 6);
            Edge.due("back", x.pledge(0, 0), 3);
            Edge.due("DEEDS", x.count(2), 4);
        });
        Edge.says("15: to one with whom it has a FEUD, too", () -> {
            WellLocks x = Check.wellOf(Edge.SEVEN);
            Edge.due("pledged", x.pledge(0, 1), 0);
            Edge.due("what 1 HOLDS, with the rust", x.weight(2), 3);
        });
        Edge.says("15: the 40th DEED", () -> {
            WellLocks x = withDeeds(Edge.SEVEN, 39).make();
            Edge.due("pledged", x.pledge(5, 4), 5);
            Edge.due("DEEDS", x.count(2), 40);
            Edge.due("on", x.pledge(5, 3), Edge.FULL);
            Check.asks("who HOLDS it", x, x.house(5, 4), 4);
        });
    }

    private static void pledgeRefused() {
        Edge.says("15: BAD", () -> {
            for (int i : Edge.outside(0, 6)) {
                Edge.bad("key " + i, Edge::seven, x -> x.pledge(i, 0));
                Edge.bad("to " + i, Edge::seven, x -> x.pledge(0, i));
                Edge.bad("neither, " + i, Edge::seven, x -> x.pledge(i, i));
                Edge.bad("ahead of FULL, key " + i, Edge::brim, x -> x.pledge(i, 0));
                Edge.bad("ahead of FULL, to " + i, Edge::brim, x -> x.pledge(0, i));
            }
            Edge.bad("no HOUSES", Edge::dry, x -> x.pledge(0, 0));
            Edge.bad("no HOUSES", Edge::dry, x -> x.pledge(0, 1));
        });
        Edge.says("15: STATE: that one HOLDS it", () -> {
            Edge.state("its own", Edge::seven, x -> x.pledge(6, 6));
            Edge.state("pledged already", Edge::seven, x -> x.pledge(2, 5));
            Edge.state("of one", Edge::one, x -> x.pledge(0, 0));
        });
        Edge.says("15: FULL last", () -> {
            Edge.full("40 DEEDS", Edge::brim, x -> x.pledge(2, 2));
            Edge.state("that one HOLDS it", Edge::brim, x -> x.pledge(2, 5));
        });
    }

    private static void dayIs(String signs, int want) {
        WellLocks x = Check.wellOf(signs);
        Edge.due("day of " + signs, x.day(), want);
        Edge.due("WATER", x.count(3), want);
        Edge.due("DAY", x.count(1), 1);
        Edge.due("DEEDS", x.count(2), 1);
    }

    private static void day() {
        Edge.says("16: the WATER then (99 at most)", () -> {
            dayIs("q1000h1", 0);
            dayIs("q1009h1", 9);
            dayIs("q1900h1", 90);
            dayIs("q1899h1", 98);
            dayIs("q1909h1", 99);
            dayIs("q1919h1", 99);
            dayIs("q1981h1", 99);
            dayIs("q1990h1", 99);
            dayIs("q1999h1", 99);
        });
        Edge.says("what was drawn this DAY is forgotten", () -> {
            WellLocks x = Check.wellOf("q1990h3");
            x.row(0, 1);
            Edge.due("drawn", x.meet(0), 3);
            x.day();
            Check.asks("forgotten", x, x.house(0, 2), 0);
            Edge.due("drawn again", x.meet(0), 3);
        });
        Edge.says("16: STATE: no HOUSES", () -> {
            Edge.state("new", Edge::fresh, WellLocks::day);
            Edge.state("with rows, texts", Edge::dry, WellLocks::day);
        });
        Edge.says("16: FULL", () -> {
            Edge.full("40 DEEDS", Edge::brim, WellLocks::day);
            WellLocks x = withDeeds("q1101h3", 39).make();
            Edge.due("the 40th", x.day(), 50);
            Edge.due("DAY", x.count(1), 40);
            Edge.due("the 41st", x.day(), Edge.FULL);
            Edge.due("DAY then", x.count(1), 40);
        });
    }

    private static void undo() {
        Edge.says("17: DEEDS from number n on are undone: how many", () -> {
            for (int n = 0; n <= 40; n++) {
                WellLocks x = Edge.brim();
                Edge.due("from " + n + " on", x.undo(n), 40 - n);
                Edge.due("DEEDS then", x.count(2), n);
            }
        });
        Edge.says("17: undone, one by one, back to the first", () -> {
            WellLocks x = Check.wellOf("q1105h3c4d5");
            long[] digests = new long[8];
            x.row(0, 3);
            x.lay(0, 0, 2);
            x.lay(0, 1, 1);
            digests[0] = x.digest();
            int[] deeds = {0, 1, 2, 0, 2, 1, 0};
            for (int n = 0; n < deeds.length; n++) {
                if (deeds[n] == 0) {
                    x.meet(0);
                } else if (deeds[n] == 1) {
                    x.pledge(1, n == 1 ? 2 : 0);
                } else {
                    x.day();
                }
                digests[n + 1] = x.digest();
            }
            Edge.due("DEEDS", x.count(2), 7);
            for (int n = 6; n >= 0; n--) {
                Edge.due("undo " + n, x.undo(n), 1);
                Edge.due("as before " + n, x.digest(), digests[n]);
            }
        });
        Edge.says("17: behind the last DEED none is undone", () -> {
            WellLocks x = Edge.seven();
            Edge.due("behind 6", x.undo(6), 0);
            Edge.same("nothing changed", x, Edge.seven());
            x = Edge.brim();
            Edge.due("behind 40", x.undo(40), 0);
            Edge.same("nothing changed", x, Edge.brim());
            Edge.due("no DEEDS", Edge.one().undo(0), 0);
            Edge.due("no HOUSES", new WellLocks().undo(0), 0);
        });
        Edge.says("17: room for DEEDS again", () -> {
            WellLocks x = Edge.brim();
            Edge.due("undo the last", x.undo(39), 1);
            Edge.due("meet", x.meet(0) >= 0 ? 1 : 0, 1);
            Edge.due("no more", x.meet(0), Edge.FULL);
        });
    }

    private static void undoRefused() {
        Edge.says("17: BAD", () -> {
            for (int n : Edge.outside(0, 40)) {
                Edge.bad("of 40, " + n, Edge::brim, x -> x.undo(n));
            }
            for (int n : Edge.outside(0, 6)) {
                Edge.bad("of 6, " + n, Edge::seven, x -> x.undo(n));
            }
            for (int n : Edge.outside(0, 0)) {
                Edge.bad("of none, " + n, Edge::one, x -> x.undo(n));
                Edge.bad("no HOUSES, " + n, Edge::dry, x -> x.undo(n));
            }
        });
    }

    private static void keep() {
        Edge.says("18: The WELL (as it is, DEEDS) is kept in a place (0 .. 2): how many DEEDS", () -> {
            for (int k = 0; k <= 2; k++) {
                WellLocks x = Edge.one();
                Edge.due("none", x.keep(k), 0);
                Edge.due("kept", x.count(10), 1);
                x = Edge.brim();
                Edge.due("40", x.keep(k), 40);
                Edge.due("kept", x.count(10), 3);
                x.undo(0);
                Edge.due("on", x.on(k), 40);
            }
        });
        Edge.says("18: kept in a place in which one is kept already", () -> {
            WellLocks x = Edge.one();
            x.day();
            x.keep(1);
            x.day();
            Edge.due("two", x.keep(1), 2);
            Edge.due("kept", x.count(10), 1);
            Edge.due("on", x.on(1), 2);
        });
        Edge.says("18: to keep is no DEED", () -> {
            WellLocks x = Edge.brim();
            long deeds = x.count(2);
            x.keep(0);
            Edge.due("DEEDS", x.count(2), deeds);
        });
        Edge.says("18: BAD", () -> {
            for (int k : Edge.outside(0, 2)) {
                Edge.bad("place " + k, Edge::seven, x -> x.keep(k));
                Edge.bad("ahead of STATE, " + k, Edge::dry, x -> x.keep(k));
            }
        });
        Edge.says("18: STATE: no HOUSES", () -> {
            for (int k = 0; k <= 2; k++) {
                int place = k;
                Edge.state("place " + k, Edge::dry, x -> x.keep(place));
            }
        });
    }

    private static void on() {
        Edge.says("19: The WELL is as it was kept: how many DEEDS", () -> {
            WellLocks x = Check.wellOf("q1105h3c4d5");
            Check.lay(x, 0, 2, 1);
            x.keep(0);
            x.meet(0);
            x.pledge(0, 2);
            x.day();
            x.keep(1);
            x.meet(0);
            x.pledge(2, 1);
            x.keep(2);
            long last = x.digest();
            Edge.due("none", x.on(0), 0);
            Edge.due("DAY", x.count(1), 0);
            Edge.due("WATER", x.count(3), 10);
            Check.asks("key", x, x.house(0, 4), 0);
            Edge.due("three", x.on(1), 3);
            Edge.due("DAY", x.count(1), 1);
            Check.asks("key", x, x.house(0, 4), 2);
            Check.asks("in all", x, x.house(2, 3), 5);
            Edge.due("five", x.on(2), 5);
            Edge.due("as it was", x.digest(), last);
        });
        Edge.says("19: what is kept stays kept, and stays as it was", () -> {
            WellLocks x = Edge.seven();
            Edge.due("on", x.on(2), 1);
            x.pledge(5, 4);
            x.day();
            x.undo(0);
            x.day();
            Edge.due("on again", x.on(2), 1);
            Edge.due("kept", x.count(10), 2);
            Edge.due("no DAY passed", x.count(1), 0);
            Edge.due("drawn", x.count(3), 11);
        });
        Edge.says("19: BAD", () -> {
            for (int k : Edge.outside(0, 2)) {
                Edge.bad("place " + k, Edge::seven, x -> x.on(k));
                Edge.bad("no HOUSES, " + k, Edge::dry, x -> x.on(k));
            }
        });
        Edge.says("19: NOTHING", () -> {
            Edge.found("place 1", Edge::seven, Edge.NOTHING, x -> x.on(1));
            Edge.found("no HOUSES", Edge::dry, Edge.NOTHING, x -> x.on(0));
            Edge.found("none kept", Edge::one, Edge.NOTHING, x -> x.on(2));
        });
    }
}
