/** Promises 33 to 35: the edges of chances and LOTS, a test for each sentence that names one. */
public final class EdgesOfChancesTest {
    private static final int MAX = Edge.MAX;
    private static final String PLAIN = "h1h1h1h1h1h1h1";
    private static final String RISING = "q1990h1h2h3h4h5h6h7";

    /** odds() or mid(): both are refused alike. */
    private interface Chance {
        int of(WellLocks x, int p);
    }

    public static void main(String[] args) {
        odds();
        mid();
        chanceRefused("33", WellLocks::odds);
        chanceRefused("34", WellLocks::mid);
        lots();
        lotsOfNone();
        lotsDeeds();
        lotsRefused();
        lotsFull();
        Check.end();
    }

    private static void oddsAre(WellLocks x, int p, long upper, long lower) {
        Check.tells("odds " + p, x, x.odds(p), upper, lower);
    }

    private static void oddsAre(String signs, int p, long upper, long lower) {
        oddsAre(Check.wellOf(signs), p, upper, lower);
    }

    private static void odds() {
        Edge.says("33: each HOUSE coming by p (0 .. 12) of 12", () -> {
            oddsAre("q1990h1", 0, 0, 1);
            oddsAre("q1990h1", 1, 1, 12);
            oddsAre("q1990h1", 6, 1, 2);
            oddsAre("q1990h1", 11, 11, 12);
            oddsAre("q1990h1", 12, 1, 1);
        });
        Edge.says("33: each by itself: of seven", () -> {
            oddsAre("q7990" + PLAIN, 0, 0, 1);
            oddsAre("q7990" + PLAIN, 1, 1, 35831808);
            oddsAre("q7990" + PLAIN, 11, 19487171, 35831808);
            oddsAre("q7990" + PLAIN, 12, 1, 1);
            oddsAre("q1990" + PLAIN, 1, 35831808 - 19487171, 35831808);
            oddsAre("q1990" + PLAIN, 6, 127, 128);
            oddsAre("q8990" + PLAIN, 12, 0, 1);
        });
        Edge.says("33: nobody need come, by a RUSTY lock", () -> {
            oddsAre("q1990r1", 0, 1, 1);
            oddsAre("q1990r1h1h1h1h1h1h1", 5, 1, 1);
            oddsAre("q1990r1", 12, 1, 1);
        });
        Edge.says("33: OPEN the WELL: by no FEUD, too", () -> {
            oddsAre("q1990h1h1x01", 12, 0, 1);
            oddsAre("q1990h1h1x01", 6, 1, 2);
        });
    }

    private static void midIs(WellLocks x, int p, long upper, long lower) {
        Check.tells("mid " + p, x, x.mid(p), upper, lower);
    }

    private static void midIs(String signs, int p, long upper, long lower) {
        midIs(Check.wellOf(signs), p, upper, lower);
    }

    private static void mid() {
        Edge.says("34: The mean of buckets drawn then", () -> {
            midIs("q1990h9", 0, 0, 1);
            midIs("q1990h9", 1, 3, 4);
            midIs("q1990h9", 12, 9, 1);
            midIs("q7990h9h9h9h9h9h9h9", 12, 63, 1);
            midIs("q7990h9h9h9h9h9h9h9", 1, 7, 3981312);
            midIs("q7990h9h9h9h9h9h9h9", 0, 0, 1);
            midIs("q1990h9h9", 6, 9, 1);
        });
        Edge.says("34: of what there is", () -> {
            midIs("q1040h9", 12, 4, 1);
            midIs("q1000h9", 12, 0, 1);
            midIs("q1100h9h9", 6, 7, 1);
        });
        Edge.says("34: none is drawn, if they do not OPEN it", () -> {
            midIs("q2990h9h9", 6, 9, 2);
            midIs("q1990h9h9x01", 12, 0, 1);
            midIs("q9990h9h9", 12, 0, 1);
        });
        Edge.says("34: by what they WANT yet", () -> {
            WellLocks x = Edge.laid(Edge.well("q1990h9h4m9s9"), 0, 0).make();
            midIs(x, 12, 17, 1);
            x.meet(0);
            midIs(x, 12, 8, 1);
            x.day();
            midIs(x, 12, 17, 1);
        });
    }

    private static void chanceRefused(String promise, Chance chance) {
        Edge.says(promise + ": BAD", () -> {
            for (int p : Edge.outside(0, 12)) {
                Edge.bad("by " + p, Edge::seven, x -> chance.of(x, p));
                Edge.bad("ahead of STATE, " + p, Edge::dry, x -> chance.of(x, p));
            }
        });
        Edge.says(promise + ": STATE: no HOUSES", () -> {
            for (int p : new int[] {0, 1, 12}) {
                Edge.state("by " + p, Edge::dry, x -> chance.of(x, p));
            }
            Edge.state("new", Edge::fresh, x -> chance.of(x, 0));
        });
    }

    private static void lots() {
        // By 1: 48271, 182605794, 1291394886, 1914720637; by 8 and modulo 128: 17, 124, 104, 47.
        Edge.says("35: it by 8, cut, modulo all sets that there are is the set that comes", () -> {
            WellLocks x = Check.wellOf(RISING);
            Edge.due("the first", x.lots(1, 1), 6);
            Edge.due("WATER", x.count(3), 93);
            x.undo(0);
            Edge.due("four", x.lots(4, 1), 6 + 25 + 17 + 16);
            int[] all = {2, 2, 6, 12, 10, 18, 14};
            for (int i = 0; i < 7; i++) {
                Check.asks("drew, " + i, x, x.house(i, 3), all[i]);
                Check.asks("forgotten, " + i, x, x.house(i, 2), 0);
            }
        });
        // 48271 less than nothing, modulo 2147483647, is 2147435376: by 8 and modulo 128, 110.
        Edge.says("35: the greatest seed, 2147483646", () -> {
            WellLocks x = Check.wellOf(RISING);
            Edge.due("drawn", x.lots(1, 2147483646), 2 + 3 + 4 + 6 + 7);
            Edge.due("DEEDS", x.count(2), 2);
        });
        Edge.says("35: modulo all sets that there are, of one HOUSE", () -> {
            WellLocks x = Check.wellOf("q1990h5");
            Edge.due("17 is odd, then 124, 104, then 47", x.lots(4, 1), 10);
            Edge.due("DEEDS", x.count(2), 6);
        });
        Edge.says("35: buckets drawn in all of these, none ahead", () -> {
            WellLocks x = Edge.laid(Edge.well("q1990h5"), 0, 0).make();
            Edge.due("drawn ahead", x.meet(0), 5);
            Edge.due("its one set drew already", x.lots(1, 1), 0);
            Edge.due("DEEDS", x.count(2), 3);
        });
    }

    private static void lotsOfNone() {
        Edge.says("35: if it OPENS the WELL, they meet (a DEED); then the DAY passes", () -> {
            WellLocks x = Check.wellOf("q9990h5");
            Edge.due("drawn", x.lots(20, 1), 0);
            Edge.due("DEEDS", x.count(2), 20);
            Edge.due("DAY", x.count(1), 20);
        });
        Edge.says("35: nobody comes, and a RUSTY lock is enough", () -> {
            WellLocks x = Check.wellOf("q1990r5");
            Edge.due("nobody: a DEED on DAY 0", x.lots(1, 2147483646), 0);
            Edge.due("DEEDS", x.count(2), 2);
            Edge.due("nobody, DAY 1", x.lots(1, 2147483646), 0);
            Edge.due("DEEDS", x.count(2), 3);
        });
        Edge.says("35: they meet, rising", () -> {
            WellLocks x = Check.wellOf("q1040h3h3h3h3h3h3h3");
            Edge.due("0 and 4", x.lots(1, 1), 4);
            Check.asks("0", x, x.house(0, 3), 3);
            Check.asks("4", x, x.house(4, 3), 1);
        });
    }

    private static void lotsDeeds() {
        Edge.says("35: n (1 .. 20) DAYS truly", () -> {
            WellLocks x = Check.wellOf("q1999h5");
            Edge.due("20", x.lots(20, 1) >= 0 ? 1 : 0, 1);
            Edge.due("DAY", x.count(1), 20);
            Edge.due("WATER", x.count(3), 99);
            x.undo(0);
            Edge.due("1", x.lots(1, 1), 5);
            Edge.due("DAY", x.count(1), 1);
        });
        Edge.says("35: DEEDS that are undone, kept as others are", () -> {
            WellLocks x = Check.wellOf(RISING);
            x.lots(2, 1);
            long two = x.digest();
            x.lots(1, 5);
            Edge.due("undo", x.undo(4) > 0 ? 1 : 0, 1);
            Edge.due("as it was", x.digest(), two);
            Edge.due("kept", x.keep(0), 4);
            x.undo(0);
            Edge.due("on", x.on(0), 4);
            Edge.due("WATER", x.count(3), 99 - 31);
        });
        Edge.says("35: the same seed, the same LOTS", () -> {
            WellLocks x = Check.wellOf(RISING);
            int once = x.lots(3, 77);
            x.undo(0);
            Edge.due("again", x.lots(3, 77), once);
        });
    }

    private static void lotsRefused() {
        Edge.says("35: BAD: n (1 .. 20)", () -> {
            for (int n : Edge.outside(1, 20)) {
                Edge.bad(n + " DAYS", Edge::one, x -> x.lots(n, 1));
                Edge.bad("ahead of STATE, " + n, Edge::dry, x -> x.lots(n, 1));
                Edge.bad("ahead of FULL, " + n, Edge::brim, x -> x.lots(n, 1));
            }
        });
        Edge.says("35: BAD: a seed (1 .. 2147483646)", () -> {
            for (int seed : new int[] {0, -1, Edge.MIN, MAX}) {
                Edge.bad("seed " + seed, Edge::seven, x -> x.lots(1, seed));
                Edge.bad("ahead of STATE, " + seed, Edge::dry, x -> x.lots(1, seed));
                Edge.bad("ahead of FULL, " + seed, Edge::brim, x -> x.lots(1, seed));
            }
        });
        Edge.says("35: STATE: no HOUSES", () -> {
            Edge.state("one", Edge::fresh, x -> x.lots(1, 1));
            Edge.state("20, the greatest seed", Edge::dry, x -> x.lots(20, 2147483646));
        });
    }

    private static void lotsFull() {
        Edge.says("35: FULL: with twice n more there would be more than 40 DEEDS", () -> {
            Edge.full("one more", Edge::brim, x -> x.lots(1, 1));
            for (int deeds = 0; deeds <= 40; deeds++) {
                int many = deeds;
                Edge.Start start = () -> {
                    WellLocks x = Check.wellOf("q9990h5");
                    while (x.count(2) < many) {
                        x.day();
                    }
                    return x;
                };
                int most = (40 - deeds) / 2;
                if (most >= 1) {
                    WellLocks x = start.make();
                    Edge.due("behind " + deeds + ", as many", x.lots(most, 1), 0);
                    Edge.due("DEEDS", x.count(2), deeds + most);
                }
                if (most + 1 <= 20) {
                    Edge.full("behind " + deeds + ", one more", start, x -> x.lots(most + 1, 1));
                }
            }
        });
        Edge.says("35: FULL, even if there would be fewer DEEDS", () -> {
            Edge.full("none OPENS it", () -> {
                WellLocks x = Check.wellOf("q9990h5");
                x.day();
                return x;
            }, x -> x.lots(20, 1));
        });
    }
}
