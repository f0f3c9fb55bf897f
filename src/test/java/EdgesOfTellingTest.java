/** Promises 36 to 42, and 'Terms': the edges of what is told, a test for each sentence that names one. */
public final class EdgesOfTellingTest {
    private static final String PLAIN = "h1h1h1h1h1h1h1";

    public static void main(String[] args) {
        terms();
        asked();
        askedStays();
        parts();
        partsStay();
        count();
        countOfAll();
        finding();
        findings();
        digest();
        digestOfAll();
        Check.end();
    }

    private static void terms() {
        Edge.says("BAD -1, FULL -2, STATE -4, SPENT -6, FINDING -3, NONE -9", () -> {
            Edge.due("BAD", WellLocks.BAD, -1);
            Edge.due("FULL", WellLocks.FULL, -2);
            Edge.due("FINDING", WellLocks.FINDING, -3);
            Edge.due("STATE", WellLocks.STATE, -4);
            Edge.due("SPENT", WellLocks.SPENT, -6);
            Edge.due("NONE", WellLocks.NONE, -9);
        });
        Edge.says("FINDINGS: 1 NOTHING, 2 BEYOND, 3 UNLIKE, 4 NOUGHT, 5 SIZE", () -> {
            Edge.found("a ROW that is missing", Edge::seven, 1, x -> x.at(5, 0));
            Edge.found("a TEXT that is missing", Edge::seven, 1, x -> x.fault(3));
            Edge.found("a kept WELL that is missing", Edge::seven, 1, x -> x.on(1));
            Edge.found("a place of a ROW that there is not", Edge::seven, 2, x -> x.at(0, 3));
            Edge.found("a place of a TEXT that there is not", Edge::seven, 2, x -> x.put(1, 8, 0));
            Edge.found("a HOUSE of another KIND", Edge::seven, 3, x -> x.mark(0, 1));
            Edge.found("a number that is none", Edge.laid(Edge::seven, 4, 7), 3, x -> x.meet(4));
            Edge.found("shared among none", Edge::seven, 4, x -> x.mean(1));
            Edge.found("fewer than none", Edge::seven, 5, x -> x.row(0, -1));
            Edge.found("too many", Edge::seven, 5, x -> x.meet(2));
            Edge.found("not as many as due", Edge::seven, 5, x -> x.twice(0));
        });
    }

    private static void asked() {
        Edge.says("36: 0 before", () -> {
            Edge.due("new", new WellLocks().asked(), 0);
            WellLocks x = new WellLocks();
            x.text(0, 80);
            x.put(0, 79, 7);
            x.at(0, 0);
            x.house(0, 0);
            Edge.due("all refused", x.asked(), 0);
        });
        Edge.says("36: What the latest .. told", () -> {
            WellLocks x = Edge.seven();
            x.lay(2, 0, 77);
            Edge.due("lay", x.asked(), -20);
            x.at(2, 0);
            Edge.due("at", x.asked(), 77);
            x.mean(0);
            Edge.due("mean", x.asked(), 2);
            x.house(4, 1);
            Edge.due("house", x.asked(), 7);
            x.weight(32);
            Edge.due("weight", x.asked(), 1);
            x.opens();
            Edge.due("opens", x.asked(), 32);
            x.weight(0);
            Edge.due("weight", x.asked(), 0);
            x.must();
            Edge.due("must", x.asked(), 127);
            x.ration();
            Edge.due("ration", x.asked(), 18);
            x.frogs(99);
            Edge.due("frogs", x.asked(), 0);
        });
        Edge.says("36: asked() itself, again and again", () -> {
            WellLocks x = Edge.seven();
            Edge.due("once", x.asked(), 19);
            Edge.due("twice", x.asked(), 19);
        });
    }

    private static void askedStays() {
        Edge.says("36: by none but these", () -> {
            WellLocks x = Edge.seven();
            Edge.Call[] others = {
                y -> y.row(3, 2), y -> y.copy(2, 0, 3, 0, 2), y -> y.tear(3), y -> y.text(3, 1), y -> y.put(3, 0, 1),
                y -> y.fault(0), y -> y.mark(4, 4), y -> y.meet(0), y -> y.pledge(3, 1), y -> y.day(),
                y -> y.keep(1), y -> y.on(1), y -> y.undo(0), y -> y.holds(3), y -> y.part(3), y -> y.drink(3),
                y -> y.best(32, 3), y -> y.twice(1), y -> y.quorum(1), y -> y.call(), y -> y.first(),
                y -> y.odds(5), y -> y.mid(5), y -> y.lots(2, 9), y -> y.upper(), y -> y.lower(), y -> y.count(3),
                y -> y.finding(), y -> y.findings(1), y -> y.digest(), y -> y.well(0)
            };
            for (int i = 0; i < others.length; i++) {
                Edge.due("call " + i + " is not refused", others[i].on(x) >= 0 || i == 5 || i > 27 ? 1 : 0, 1);
                Edge.due("behind call " + i, x.asked(), 19);
            }
        });
    }

    private static void parts() {
        Edge.says("37, 38: 0 before, 1 before", () -> {
            Edge.due("upper", new WellLocks().upper(), 0);
            Edge.due("lower", new WellLocks().lower(), 1);
            WellLocks x = Edge.dry();
            x.odds(5);
            x.mid(5);
            x.part(0);
            x.frogs(100);
            Edge.due("upper, all refused", x.upper(), 0);
            Edge.due("lower, all refused", x.lower(), 1);
        });
        Edge.says("in lowest terms, the lower number above 0 (0 by 1)", () -> {
            WellLocks x = Check.wellOf("q1990h2h2h2h2");
            Check.tells("15 by 16", x, x.odds(6), 15, 16);
            Check.tells("4", x, x.mid(6), 4, 1);
            Check.tells("a quarter", x, x.part(3), 1, 4);
            Check.tells("all", x, x.odds(12), 1, 1);
            Check.tells("0 by 1", x, x.odds(0), 0, 1);
            Check.tells("15", x, x.opens(), 15, 1);
            Check.tells("0 by 1", x, x.mid(0), 0, 1);
            Check.tells("6", x, x.frogs(4), 6, 1);
            Check.tells("none: 0 by 1", x, x.frogs(5), 0, 1);
        });
    }

    private static void partsStay() {
        Edge.says("37, 38: told last: by none but opens(), part(), frogs(), odds(), mid()", () -> {
            WellLocks x = Check.wellOf("q1990h2h2h2h2");
            x.odds(6);
            x.row(0, 1);
            x.meet(0);
            x.at(0, 0);
            x.mean(0);
            x.weight(1);
            x.must();
            x.holds(1);
            x.ration();
            x.drink(0);
            x.best(1, 0);
            x.call();
            x.first();
            x.lots(1, 1);
            x.day();
            x.well(0);
            Edge.due("upper", x.upper(), 15);
            Edge.due("lower", x.lower(), 16);
        });
    }

    private static void count() {
        Edge.says("39: BAD", () -> {
            for (int what : Edge.outside(0, 10)) {
                Edge.bad("what " + what, Edge::seven, x -> x.count(what));
                Edge.bad("no HOUSES, " + what, Edge::dry, x -> x.count(what));
            }
        });
        Edge.says("39: 4 how much WEIGHT OPENS it (0 without HOUSES)", () -> {
            Edge.due("no HOUSES", new WellLocks().count(4), 0);
            Edge.due("no HOUSES, a fault", faulty().count(4), 0);
            Edge.due("1", Check.wellOf("q1990h1").count(4), 1);
            Edge.due("9", Check.wellOf("q9990h1").count(4), 9);
        });
        Edge.says("39: 6 CHILDREN (SWORN, too), 7 DOUBLES (SMITHS, too)", () -> {
            Edge.due("CHILDREN", Check.wellOf(Edge.SEVEN).count(6), 2);
            Edge.due("DOUBLES", Check.wellOf(Edge.SEVEN).count(7), 2);
            Edge.due("seven CHILDREN", Check.wellOf("q1990c1s1c1s1c1s1c1").count(6), 7);
            Edge.due("seven DOUBLES", Check.wellOf("q1990d1m1d1m1d1m1d1").count(7), 7);
            Edge.due("no CHILDREN", Check.wellOf("q1990h1r1d1m1").count(6), 0);
            Edge.due("no DOUBLES", Check.wellOf("q1990h1r1c1s1").count(7), 0);
        });
    }

    private static WellLocks faulty() {
        WellLocks x = new WellLocks();
        Check.write(x, 0, "q9999h1h1x00");
        x.fault(0);
        x.well(0);
        return x;
    }

    private static void countOfAll() {
        Edge.says("39: each at its most", () -> {
            WellLocks x = Check.wellOf("q9999" + PLAIN + "x01x02x03x04x05x06x12x13x14x15x16x23x24x25x26x34x35x36x45x46");
            for (int r = 0; r < 6; r++) {
                x.row(r, 0);
            }
            for (int t = 1; t < 4; t++) {
                x.text(t, 0);
            }
            for (int d = 0; d < 40; d++) {
                x.day();
            }
            for (int k = 0; k < 3; k++) {
                x.keep(k);
            }
            int[] most = {7, 40, 40, 99, 9, 20, 0, 0, 6, 4, 3};
            for (int what = 0; what <= 10; what++) {
                Edge.due("count(" + what + ")", x.count(what), most[what]);
            }
        });
        Edge.says("39: 8 ROWS, 9 TEXTS that are there", () -> {
            WellLocks x = new WellLocks();
            x.row(5, 0);
            x.row(5, 1);
            Edge.due("one ROW, anew", x.count(8), 1);
            x.text(3, 0);
            x.text(3, 1);
            Edge.due("one TEXT, anew", x.count(9), 1);
            x.tear(5);
            Edge.due("torn", x.count(8), 0);
        });
    }

    private static void finding() {
        Edge.says("40: The latest FINDING (0 before any)", () -> {
            WellLocks x = new WellLocks();
            Edge.due("new", x.finding(), 0);
            x.row(9, 9);
            x.day();
            x.must();
            Edge.due("behind BAD, STATE", x.finding(), 0);
            x.at(0, 0);
            Edge.due("NOTHING", x.finding(), 1);
            x.row(0, 0);
            Edge.due("it stays", x.finding(), 1);
            x.row(0, -1);
            Edge.due("SIZE", x.finding(), 5);
            x.tear(5);
            Edge.due("NOTHING again", x.finding(), 1);
        });
        Edge.says("40: it stays behind FULL, and behind a new WELL", () -> {
            WellLocks x = Edge.brim();
            Edge.due("before", x.finding(), 4);
            Edge.due("FULL", x.day(), Edge.FULL);
            Edge.due("behind FULL", x.finding(), 4);
            x.well(0);
            Edge.due("a new WELL", x.finding(), 4);
        });
    }

    private static void findings() {
        Edge.says("41: How often a FINDING (1 .. 5) was answered", () -> {
            WellLocks x = Edge.seven();
            int[] before = {0, 0, 0, 0, 1, 0};
            for (int f = 1; f <= 5; f++) {
                Edge.due("findings " + f, x.findings(f), before[f]);
            }
            for (int n = 1; n <= 50; n++) {
                x.row(0, -n);
                Edge.due("SIZE", x.findings(5), n);
            }
            Edge.due("NOTHING", x.findings(1), 0);
            Edge.due("NOUGHT", x.findings(4), 1);
        });
        Edge.says("41: BAD", () -> {
            for (int f : Edge.outside(1, 5)) {
                Edge.bad("findings " + f, Edge::seven, x -> x.findings(f));
                Edge.bad("of none, " + f, Edge::fresh, x -> x.findings(f));
            }
        });
    }

    private static long fold(long start, long... values) {
        long h = start;
        for (long v : values) {
            h = 31 * h + v;
        }
        return h;
    }

    private static void digest() {
        Edge.says("42: h = 17 .. (-1: missing), of a new object", () -> {
            long h = fold(17, new long[11]);
            h = fold(h, -1, -1, -1);
            h = fold(h, -1, -1, -1, -1, -1, -1);
            h = fold(h, -1, -1, -1, -1);
            Edge.due("new", new WellLocks().digest(), h);
        });
        Edge.says("42: of each ROW its size and places, of each TEXT likewise", () -> {
            WellLocks x = new WellLocks();
            x.row(0, 0);
            Check.lay(x, 5, Edge.MIN, Edge.MAX);
            x.text(0, 0);
            x.text(3, 2);
            x.put(3, 1, 200);
            long h = fold(17, 0, 0, 0, 0, 0, 0, 0, 0, 2, 2, 0);
            h = fold(h, -1, -1, -1);
            h = fold(h, 0, -1, -1, -1, -1, 2, Edge.MIN, Edge.MAX);
            h = fold(h, 0, -1, -1, 2, 32, -56);
            Edge.due("a few", x.digest(), h);
        });
        Edge.says("42: it changes nothing", () -> {
            WellLocks x = Edge.brim();
            x.digest();
            Edge.same("as it was", x, Edge.brim());
        });
    }

    private static void digestOfAll() {
        Edge.says("42: count() 0 to 10; of each HOUSE house() 0 to 6; of each kept WELL how many DEEDS", () -> {
            WellLocks x = Edge.brim();
            long h = 17;
            for (int what = 0; what <= 10; what++) {
                h = fold(h, x.count(what));
            }
            for (int i = 0; i < 7; i++) {
                for (int what = 0; what <= 6; what++) {
                    x.house(i, what);
                    h = fold(h, x.asked());
                }
            }
            h = fold(h, 5, 40, 1);
            h = fold(h, 3, 5, 2, 0, 0, 40);
            for (int i = 0; i < 40; i++) {
                h = fold(h, i - 20);
            }
            h = fold(h, -1, -1, -1);
            for (String signs : new String[] {Edge.SEVEN, "q0205 h4", ""}) {
                h = fold(h, signs.length());
                for (int i = 0; i < signs.length(); i++) {
                    h = fold(h, signs.charAt(i));
                }
            }
            Edge.due("of all", x.digest(), fold(h, -1));
        });
    }
}
