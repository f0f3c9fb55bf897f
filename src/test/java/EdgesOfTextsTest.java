/** Promises 8 to 11, and what a WELL's TEXT may be: the edges, a test for each sentence that names one. */
public final class EdgesOfTextsTest {
    private static final int MIN = Edge.MIN, MAX = Edge.MAX, NONE = Edge.NONE;
    private static final String SEVEN_PLAIN = "q1000h1h1h1h1h1h1h1";

    public static void main(String[] args) {
        text();
        put();
        fault();
        faultOfPeace();
        faultOfHouses();
        faultOfFeuds();
        faultAtTheEnd();
        fullText();
        well();
        wellAnew();
        Check.end();
    }

    private static void textIsBlank(WellLocks x, int t, int n) {
        Edge.due("text(" + t + ", " + n + ")", x.text(t, n), n);
        Edge.due("blanks alone", x.fault(t), n);
        for (int i = 0; i < n; i++) {
            Edge.due("byte " + i + " of " + n, x.put(t, i, 'z'), 1032);
        }
        Check.finds("behind " + n, x, x.put(t, n, 'z'), Edge.BEYOND);
    }

    private static void text() {
        Edge.says("8: A TEXT is there with n blanks: n (0 .. 3; 0 to 80)", () -> {
            for (int t = 0; t <= 3; t++) {
                textIsBlank(new WellLocks(), t, 0);
                textIsBlank(new WellLocks(), t, 1);
                textIsBlank(new WellLocks(), t, 79);
                textIsBlank(new WellLocks(), t, 80);
            }
        });
        Edge.says("8: there with n blanks, also where there was one", () -> {
            WellLocks x = Edge.dry();
            textIsBlank(x, 0, 80);
            textIsBlank(x, 0, 2);
            textIsBlank(x, 0, 3);
        });
        Edge.says("8: BAD", () -> {
            for (int t : Edge.outside(0, 3)) {
                Edge.bad("text " + t, Edge::seven, x -> x.text(t, 3));
            }
        });
        Edge.says("8: BAD: also n above 80", () -> {
            Edge.bad("81", Edge::seven, x -> x.text(0, 81));
            Edge.bad("81, missing", Edge::seven, x -> x.text(3, 81));
            Edge.bad("the greatest", Edge::seven, x -> x.text(0, MAX));
        });
        Edge.says("8: SIZE: below 0", () -> {
            Edge.found("-1", Edge::seven, Edge.SIZE, x -> x.text(0, -1));
            Edge.found("-1, missing", Edge::fresh, Edge.SIZE, x -> x.text(3, -1));
            Edge.found("the least", Edge::seven, Edge.SIZE, x -> x.text(0, MIN));
        });
        Edge.says("8: BAD ahead of SIZE", () -> {
            Edge.bad("text 4 of -1", Edge::seven, x -> x.text(4, -1));
            Edge.bad("text -1 of the least", Edge::seven, x -> x.text(-1, MIN));
        });
    }

    /** Puts a number: what is there then, and 1000 more, is this. */
    private static void putIs(int v, int want) {
        WellLocks x = Edge.dry();
        x.put(0, 0, v);
        Edge.due("behind put of " + v, x.put(0, 0, 0), want);
    }

    private static void put() {
        Edge.says("9: Byte i of a TEXT is v: what it was, and 1000 more", () -> {
            WellLocks x = new WellLocks();
            x.text(3, 80);
            Edge.due("first", x.put(3, 0, 65), 1032);
            Edge.due("first again", x.put(3, 0, 66), 1065);
            Edge.due("last", x.put(3, 79, 67), 1032);
            Edge.due("last again", x.put(3, 79, 68), 1067);
            Edge.due("beside it", x.put(3, 78, 0), 1032);
        });
        Edge.says("9: cut to a byte", () -> {
            putIs(0, 1000);
            putIs(127, 1127);
            putIs(128, 872);
            putIs(255, 999);
            putIs(256, 1000);
            putIs(-1, 999);
            putIs(-9, 991);
            putIs(-128, 872);
            putIs(-129, 1127);
            putIs(MIN, 1000);
            putIs(MAX, 999);
        });
        Edge.says("9: BAD", () -> {
            for (int t : Edge.outside(0, 3)) {
                Edge.bad("text " + t, Edge::seven, x -> x.put(t, 0, 1));
                Edge.bad("text " + t + ", no byte", Edge::seven, x -> x.put(t, -1, 1));
            }
        });
        Edge.says("9: NOTHING", () -> {
            Edge.found("text 3", Edge::seven, Edge.NOTHING, x -> x.put(3, 0, 1));
            Edge.found("ahead of BEYOND, -1", Edge::seven, Edge.NOTHING, x -> x.put(3, -1, 1));
            Edge.found("ahead of BEYOND, 80", Edge::seven, Edge.NOTHING, x -> x.put(3, 80, 1));
        });
        Edge.says("9: BEYOND", () -> {
            for (int i : Edge.outside(0, Edge.SEVEN.length() - 1)) {
                Edge.found("byte " + i, Edge::seven, Edge.BEYOND, x -> x.put(0, i, 1));
            }
            Edge.found("of none", Edge::seven, Edge.BEYOND, x -> x.put(2, 0, 1));
            Edge.found("of 80", () -> {
                WellLocks x = Edge.seven();
                x.text(3, 80);
                return x;
            }, Edge.BEYOND, x -> x.put(3, 80, 1));
        });
    }

    private static void faultIs(String signs, int want) {
        WellLocks x = new WellLocks();
        Check.write(x, 3, signs);
        long before = x.digest();
        Edge.due("fault of '" + signs + "'", x.fault(3), want);
        Edge.due("well of '" + signs + "' is refused", x.well(3) == Edge.STATE ? 1 : 0, want == NONE ? 0 : 1);
        if (want != NONE) {
            Edge.due("refused, digest()", x.digest(), before);
            Edge.due("refused, finding()", x.finding(), 0);
        }
    }

    private static void fault() {
        Edge.says("10: NONE: there is none", () -> {
            WellLocks x = Edge.seven();
            long before = x.digest();
            Edge.due("fault", x.fault(0), NONE);
            Edge.due("it tells alone", x.digest(), before);
        });
        Edge.says("10: BAD", () -> {
            for (int t : Edge.outside(0, 3)) {
                Edge.bad("text " + t, Edge::seven, x -> x.fault(t));
            }
        });
        Edge.says("10: NOTHING", () -> Edge.found("text 3", Edge::seven, Edge.NOTHING, x -> x.fault(3)));
        Edge.says("blanks (32) ahead, between, behind as many as wanted", () -> {
            faultIs("q1000h1h1x01", NONE);
            faultIs("   q1000   h1   h1   x01   ", NONE);
            faultIs(" ".repeat(73) + "q1000h1", NONE);
            faultIs("q1000" + " ".repeat(73) + "h1", NONE);
            faultIs("q1000h1" + " ".repeat(73), NONE);
            faultIs("q1000h1h1" + " ".repeat(68) + "x01", NONE);
        });
        Edge.says("blanks are 32 alone", () -> {
            faultIs("\tq1000h1", 0);
            faultIs("q1000\nh1", 5);
            faultIs("q1000h1\0", 7);
            faultIs("q1000h1!", 7);
            faultIs("q1000h1" + (char) 31, 7);
            faultIs("q1000h1" + (char) 160, 7);
        });
        Edge.says("none within items", () -> {
            faultIs("q 1000h1", 1);
            faultIs("q1 000h1", 2);
            faultIs("q10 00h1", 3);
            faultIs("q100 0h1", 4);
            faultIs("q1000h 1", 6);
            faultIs("q1000h1h1x 01", 10);
            faultIs("q1000h1h1x0 1", 11);
        });
    }

    private static void faultOfPeace() {
        Edge.says("First q (113)", () -> {
            faultIs("p1000h1", 0);
            faultIs("r1000h1", 0);
            faultIs("Q1000h1", 0);
            faultIs(" h1", 1);
            faultIs("1000h1", 0);
            faultIs("x01", 0);
        });
        Edge.says("how much WEIGHT opens it (1 .. 9, one figure)", () -> {
            faultIs("q0000h1", 1);
            faultIs("q1000h1", NONE);
            faultIs("q9000h1", NONE);
            faultIs("q:000h1", 1);
            faultIs("q/000h1", 1);
            faultIs("qh000h1", 1);
        });
        Edge.says("the WATER (two figures 00 .. 99)", () -> {
            faultIs("q1990h1", NONE);
            faultIs("q1/00h1", 2);
            faultIs("q1:00h1", 2);
            faultIs("q10/0h1", 3);
            faultIs("q10:0h1", 3);
            Edge.due("00", Check.wellOf("q1009h1").count(3), 0);
            Edge.due("09", Check.wellOf("q1099h1").count(3), 9);
            Edge.due("90", Check.wellOf("q1909h1").count(3), 90);
            Edge.due("99", Check.wellOf("q1999h1").count(3), 99);
        });
        Edge.says("how much of it comes each DAY (0 .. 9, one figure)", () -> {
            faultIs("q100/h1", 4);
            faultIs("q100:h1", 4);
            faultIs("q100hh1", 4);
            Edge.due("0", Check.wellOf("q1010h1").day(), 1);
            Edge.due("9", Check.wellOf("q1019h1").day(), 10);
        });
        Edge.says("one figure, and then no other one", () -> {
            faultIs("q10000h1", 5);
            faultIs("q1000 0h1", 6);
            faultIs("q1000q1000h1", 5);
        });
    }

    private static void faultOfHouses() {
        Edge.says("HOUSES (1 to 7; 0, 1, .. as they come)", () -> {
            for (int many = 1; many <= 7; many++) {
                String signs = "q1000" + "h1".repeat(many);
                Edge.due(signs, Check.wellOf(signs).count(0), many);
            }
            WellLocks x = Check.wellOf("q1000h0c1r2d3s4m5h6");
            for (int i = 0; i < 7; i++) {
                Check.asks("HEADS of " + i, x, x.house(i, 1), i);
            }
        });
        Edge.says("an eighth HOUSE: its place", () -> {
            faultIs(SEVEN_PLAIN, NONE);
            faultIs(SEVEN_PLAIN + "h1", 19);
            faultIs(SEVEN_PLAIN + "   h1", 22);
            faultIs(SEVEN_PLAIN + "h", 19);
            faultIs(SEVEN_PLAIN + "h1x07", 19);
        });
        Edge.says("a letter, HEADS (0 .. 9, one figure)", () -> {
            faultIs("q1000h0", NONE);
            faultIs("q1000h9", NONE);
            faultIs("q1000h/", 6);
            faultIs("q1000h:", 6);
            faultIs("q1000h12", 7);
            faultIs("q1000hh", 6);
        });
        Edge.says("KINDS of HOUSES and letters", () -> {
            for (int sign = 33; sign < 256; sign++) {
                int want = "hcrdsm".indexOf(sign) >= 0 ? NONE : 5;
                faultIs("q1000" + (char) sign + "1", want);
                if (sign != 'x') {
                    faultIs("q1000h1" + (char) sign + "1", want == NONE ? NONE : 7);
                }
            }
            String letters = "hcrdsm";
            for (int kind = 0; kind <= 5; kind++) {
                WellLocks x = Check.wellOf("q1000" + letters.charAt(kind) + "1");
                Check.asks("KIND", x, x.house(0, 0), kind);
            }
        });
        Edge.says("a letter cut to a byte, below 0", () -> {
            WellLocks x = new WellLocks();
            Check.write(x, 0, "q1000h1");
            x.put(0, 5, 'h' - 256);
            Edge.due("by 256 less", x.fault(0), NONE);
            x.put(0, 5, 'h' + 128);
            Edge.due("by 128 more", x.fault(0), 5);
            x.put(0, 5, -1);
            Edge.due("-1", x.fault(0), 5);
            x.put(0, 0, -1);
            Edge.due("-1 ahead", x.fault(0), 0);
            x.put(0, 0, 'q');
            x.put(0, 5, 'h');
            x.put(0, 6, -1);
            Edge.due("-1 for a figure", x.fault(0), 6);
        });
    }

    private static void faultOfFeuds() {
        Edge.says("a FEUD ahead of all HOUSES: its place", () -> {
            faultIs("q1000x01", 5);
            faultIs("q1000  x01h1h1", 7);
            faultIs("q1000x", 5);
        });
        Edge.says("then FEUDS, any of them", () -> {
            faultIs("q1000h1h1", NONE);
            faultIs("q1000h1h1x01", NONE);
            faultIs("q1000h1h1h1x12x02x01", NONE);
        });
        Edge.says("a HOUSE that there is not: its place", () -> {
            faultIs("q1000h1h1x2", 10);
            faultIs("q1000h1h1x21", 10);
            faultIs("q1000h1h1x02", 11);
            faultIs("q1000h1x01", 9);
            faultIs(SEVEN_PLAIN + "x56", NONE);
            faultIs(SEVEN_PLAIN + "x06", NONE);
            faultIs(SEVEN_PLAIN + "x67", 21);
            faultIs(SEVEN_PLAIN + "x70", 20);
            faultIs(SEVEN_PLAIN + "x07", 21);
        });
        Edge.says("a figure that is none such: its place", () -> {
            faultIs("q1000h1h1x/1", 10);
            faultIs("q1000h1h1x:1", 10);
            faultIs("q1000h1h1xx1", 10);
            faultIs("q1000h1h1x0/", 11);
            faultIs("q1000h1h1x0x", 11);
            faultIs("q1000h1h1x012", 12);
        });
        Edge.says("a second one that is not greater: its place", () -> {
            faultIs("q1000h1h1x00", 11);
            faultIs("q1000h1h1x11", 11);
            faultIs("q1000h1h1x10", 11);
            faultIs(SEVEN_PLAIN + "x65", 21);
            faultIs(SEVEN_PLAIN + "x66", 21);
        });
        Edge.says("a FEUD told already: the first place at which it can't go on so", () -> {
            faultIs("q1000h1h1x01x01", 14);
            faultIs("q1000h1h1x01  x01", 16);
            faultIs("q1000h1h1h1x01x02x12x02", 22);
            faultIs("q1000h1h1h1x01x02x0", 19);
        });
        Edge.says("a HOUSE behind a FEUD: its place", () -> {
            faultIs("q1000h1h1x01h1", 12);
            faultIs("q1000h1h1x01 m1", 13);
            faultIs("q1000h1h1x01h", 12);
            faultIs(SEVEN_PLAIN + "x01h1", 22);
        });
    }

    private static void faultAtTheEnd() {
        Edge.says("the TEXT's size, if its end comes too early", () -> {
            String whole = "q1000h1h1x01";
            for (int n = 1; n <= 5; n++) {
                faultIs(whole.substring(0, n), n);
            }
            faultIs("q1000h", 6);
            faultIs("q1000h1", NONE);
            faultIs("q1000h1h", 8);
            faultIs("q1000h1h1", NONE);
            faultIs("q1000h1h1x", 10);
            faultIs("q1000h1h1x0", 11);
            faultIs("q1000h1h1x1", 11);
            faultIs("q1000   ", 8);
            faultIs("   q", 4);
        });
        Edge.says("the TEXT's size, if there are blanks alone", () -> {
            faultIs("", 0);
            faultIs(" ", 1);
            faultIs(" ".repeat(79), 79);
            faultIs(" ".repeat(80), 80);
        });
        Edge.says("the TEXT's size, of a full TEXT", () -> {
            faultIs(" ".repeat(79) + "q", 80);
            faultIs(" ".repeat(75) + "q1000", 80);
            faultIs(" ".repeat(74) + "q1000h", 80);
            faultIs("q1000h1" + " ".repeat(72) + "h", 80);
            faultIs("q1000h1h1" + " ".repeat(70) + "x", 80);
            faultIs("q1000h1h1" + " ".repeat(69) + "x0", 80);
        });
    }

    /** Seven houses and as many feuds as 80 bytes take, 20 of the 21 that there could be. */
    private static void fullText() {
        Edge.says("TEXTS .. rows of 0 to 80 bytes: a WELL by all of them", () -> {
            StringBuilder signs = new StringBuilder("q9999h9c8r7d6s5m4h3");
            for (int i = 0; i < 7; i++) {
                for (int j = i + 1; j < 7 && i < 5; j++) {
                    signs.append('x').append(i).append(j);
                }
            }
            Edge.due("signs", signs.length(), 79);
            WellLocks x = Check.wellOf(signs + " ");
            Edge.due("FEUDS", x.count(5), 20);
            Check.asks("of 5", x, x.house(5, 6), 31);
            Check.asks("of 0", x, x.house(0, 6), 126);
            faultIs(signs + "x", 80);
            faultIs(signs + "z", 79);
        });
    }

    private static void well() {
        Edge.says("11: how many HOUSES", () -> {
            WellLocks x = new WellLocks();
            Check.write(x, 3, "q1000h1");
            Edge.due("one", x.well(3), 1);
            Check.write(x, 0, SEVEN_PLAIN);
            Edge.due("seven", x.well(0), 7);
        });
        Edge.says("11: BAD", () -> {
            for (int t : Edge.outside(0, 3)) {
                Edge.bad("text " + t, Edge::seven, x -> x.well(t));
            }
        });
        Edge.says("11: NOTHING", () -> {
            Edge.found("text 3", Edge::seven, Edge.NOTHING, x -> x.well(3));
            Edge.found("text 0", Edge::fresh, Edge.NOTHING, x -> x.well(0));
        });
        Edge.says("11: STATE: a FAULT", () -> {
            Edge.state("a fault, houses", Edge::seven, x -> x.well(1));
            Edge.state("a fault, none", Edge::dry, x -> x.well(1));
            Edge.state("a text of none", Edge::seven, x -> x.well(2));
            Edge.state("a fault at the very end", () -> {
                WellLocks x = Edge.seven();
                Check.write(x, 3, SEVEN_PLAIN + "x01x02x0");
                return x;
            }, x -> x.well(3));
        });
        Edge.says("11: a FAULT is told, and the WELL stays", () -> {
            WellLocks x = Edge.seven();
            x.fault(1);
            x.fault(2);
            x.well(1);
            Edge.same("as it was", x, Edge.seven());
        });
    }

    private static void wellAnew() {
        Edge.says("11: anew: DAY 0, no DEEDS; kept WELLS go", () -> {
            WellLocks x = Edge.seven();
            Edge.due("well", x.well(0), 7);
            WellLocks y = Edge.dry();
            y.well(0);
            Edge.due("as if new", x.digest(), y.digest());
            Edge.due("DAY", x.count(1), 0);
            Edge.due("DEEDS", x.count(2), 0);
            Edge.due("WATER", x.count(3), 20);
            Edge.due("kept", x.count(10), 0);
            for (int k = 0; k < 3; k++) {
                Check.finds("kept " + k, x, x.on(k), Edge.NOTHING);
            }
            for (int i = 0; i < 7; i++) {
                Check.asks("key " + i, x, x.house(i, 4), i);
                Check.asks("drawn " + i, x, x.house(i, 3), 0);
            }
        });
        Edge.says("11: anew, of fewer HOUSES and FEUDS", () -> {
            WellLocks x = Edge.brim();
            Check.write(x, 3, "q2010h1h2");
            Edge.due("well", x.well(3), 2);
            Edge.due("FEUDS", x.count(5), 0);
            Edge.due("CHILDREN", x.count(6), 0);
            Edge.due("DOUBLES", x.count(7), 0);
            Check.asks("feuds of 0", x, x.house(0, 6), 0);
            Edge.due("house 2", x.house(2, 0), Edge.BAD);
            Edge.due("a DEED more", x.day(), 1);
        });
        Edge.says("11: a WELL does not change with its TEXT", () -> {
            WellLocks x = Edge.dry();
            x.well(0);
            x.text(0, 0);
            Edge.due("HOUSES", x.count(0), 7);
            Edge.due("undone", x.undo(0), 0);
            Check.asks("HEADS", x, x.house(4, 1), 7);
        });
    }
}
