/** For each promise of the document: ordinary inputs, its edges, wrong inputs, worked out by hand. */
public final class PromisesTest {
    private static final int BAD = -1, FULL = -2, STATE = -4, NONE = -9;
    private static final int NOTHING = 1, BEYOND = 2, UNLIKE = 3, NOUGHT = 4, SIZE = 5;
    private static final int MIN = Integer.MIN_VALUE, MAX = Integer.MAX_VALUE;

    public static void main(String[] args) {
        constants();
        promise1();
        promise2();
        promise3();
        promise4();
        promise5();
        promise6();
        promise7();
        promise8();
        promise9();
        promise10();
        promise11();
        promise12();
        promise13();
        promise14();
        promise15();
        promise16();
        promise17();
        promise18();
        promise19();
        promise20();
        promise21();
        promise22();
        promise23();
        promise24();
        promise25();
        promise26();
        promise27();
        promise28();
        promise29();
        promise30();
        promise31and32();
        promise33();
        promise34();
        promise35();
        promise36();
        promise37and38();
        promise39();
        promise40and41();
        promise42();
        Check.end();
    }

    private static void due(String what, long got, long want) {
        Check.due(what, got, want);
    }

    private static void constants() {
        due("BAD", WellLocks.BAD, -1);
        due("FULL", WellLocks.FULL, -2);
        due("FINDING", WellLocks.FINDING, -3);
        due("STATE", WellLocks.STATE, -4);
        due("SPENT", WellLocks.SPENT, -6);
        due("NONE", WellLocks.NONE, -9);
    }

    private static void promise1() {
        WellLocks x = new WellLocks();
        for (int what = 0; what <= 10; what++) {
            due("new: count " + what, x.count(what), 0);
        }
        due("new: asked", x.asked(), 0);
        due("new: upper", x.upper(), 0);
        due("new: lower", x.lower(), 1);
        due("new: finding", x.finding(), 0);
        for (int r = 0; r < 6; r++) {
            Check.finds("new: row", x, x.tear(r), NOTHING);
        }
        for (int t = 0; t < 4; t++) {
            Check.finds("new: text", x, x.fault(t), NOTHING);
        }
        due("new: house", x.house(0, 0), BAD);
        for (int k = 0; k < 3; k++) {
            Check.finds("new: kept", x, x.on(k), NOTHING);
        }
    }

    private static void promise2() {
        WellLocks x = new WellLocks();
        due("row", x.row(5, 40), 40);
        Check.asks("row's end", x, x.at(5, 39), 0);
        due("row of none", x.row(0, 0), 0);
        due("row there", x.count(8), 2);
        Check.lay(x, 5, 7, 8);
        due("row anew", x.row(5, 2), 2);
        Check.rowIs("row anew", x, 5, 0, 0);
        due("row 6", x.row(6, 1), BAD);
        due("row -1", x.row(-1, 1), BAD);
        due("row too long", x.row(0, 41), BAD);
        due("row -1 of less than none", x.row(-1, -1), BAD);
        due("no finding yet but BEYOND", x.findings(SIZE), 0);
        Check.finds("row of less than none", x, x.row(0, -1), SIZE);
        Check.finds("row of the least", x, x.row(0, MIN), SIZE);
        due("row as it was", x.row(0, 0), 0);
    }

    private static void promise3() {
        WellLocks x = new WellLocks();
        x.row(1, 3);
        Check.asks("lay", x, x.lay(1, 2, MIN), 0);
        Check.asks("lay again", x, x.lay(1, 2, 5), MIN);
        Check.rowIs("laid", x, 1, 0, 0, 5);
        due("lay 6", x.lay(6, 0, 1), BAD);
        due("lay -1", x.lay(-1, 0, 1), BAD);
        Check.finds("lay missing", x, x.lay(0, 50, 1), NOTHING);
        Check.finds("lay beyond", x, x.lay(1, 3, 1), BEYOND);
        Check.finds("lay below", x, x.lay(1, -1, 1), BEYOND);
        Check.finds("lay far below", x, x.lay(1, MIN, 1), BEYOND);
    }

    private static void promise4() {
        WellLocks x = new WellLocks();
        Check.lay(x, 2, 11, -12);
        Check.asks("at", x, x.at(2, 1), -12);
        Check.asks("at", x, x.at(2, 0), 11);
        due("at 6", x.at(6, 0), BAD);
        Check.finds("at missing", x, x.at(3, 0), NOTHING);
        Check.finds("at beyond", x, x.at(2, 2), BEYOND);
        Check.finds("at below", x, x.at(2, -1), BEYOND);
        due("asked stays", x.asked(), 11);
    }

    private static void promise5() {
        WellLocks x = new WellLocks();
        x.row(0, 4);
        due("tear", x.tear(0), 1);
        due("torn", x.count(8), 0);
        Check.finds("tear again", x, x.tear(0), NOTHING);
        due("tear 6", x.tear(6), BAD);
        due("tear -1", x.tear(-1), BAD);
    }

    private static void promise6() {
        WellLocks x = new WellLocks();
        Check.lay(x, 0, 1, 2, 3, 4, 5);
        Check.lay(x, 1, 9, 9);
        due("copy", x.copy(0, 3, 1, 0, 2), 1);
        Check.rowIs("copied", x, 1, 4, 5);
        due("copy forth in itself", x.copy(0, 0, 0, 1, 4), 1);
        Check.rowIs("forth", x, 0, 1, 1, 2, 3, 4);
        due("copy back in itself", x.copy(0, 1, 0, 0, 4), 1);
        Check.rowIs("back", x, 0, 1, 2, 3, 4, 4);
        due("copy none at the end", x.copy(0, 5, 1, 2, 0), 1);
        due("copy 6", x.copy(6, 0, 0, 0, -1), BAD);
        due("copy to -1", x.copy(0, 0, -1, 0, -1), BAD);
        Check.finds("copy fewer than none", x, x.copy(2, 0, 3, 0, -1), SIZE);
        Check.finds("copy from missing", x, x.copy(2, 99, 0, 0, 1), NOTHING);
        Check.finds("copy to missing", x, x.copy(0, 0, 2, 99, 1), NOTHING);
        Check.finds("copy beyond", x, x.copy(0, 4, 1, 0, 2), BEYOND);
        Check.finds("copy to beyond", x, x.copy(0, 0, 1, 1, 2), BEYOND);
        Check.finds("copy from below", x, x.copy(0, -1, 1, 0, 1), BEYOND);
        Check.finds("copy to below", x, x.copy(0, 0, 1, -1, 1), BEYOND);
        Check.finds("copy far too many", x, x.copy(0, 1, 1, 1, MAX), BEYOND);
        Check.finds("copy from far", x, x.copy(0, MAX, 1, 0, MAX), BEYOND);
        Check.rowIs("nothing of it", x, 1, 4, 5);
    }

    private static void promise7() {
        WellLocks x = new WellLocks();
        Check.lay(x, 0, 3, 4);
        Check.asks("mean", x, x.mean(0), 3);
        Check.lay(x, 0, -3, -4);
        Check.asks("mean below 0, cut", x, x.mean(0), -3);
        Check.lay(x, 0, MAX, MAX, MAX);
        Check.asks("mean of the greatest", x, x.mean(0), MAX);
        Check.lay(x, 0, MIN, MIN);
        Check.asks("mean of the least", x, x.mean(0), MIN);
        x.row(0, 0);
        Check.finds("mean of none", x, x.mean(0), NOUGHT);
        Check.finds("mean of missing", x, x.mean(1), NOTHING);
        due("mean 6", x.mean(6), BAD);
    }

    private static void promise8() {
        WellLocks x = new WellLocks();
        due("text", x.text(3, 80), 80);
        due("text is blank", x.put(3, 79, 1), 1032);
        due("text anew", x.text(3, 80), 80);
        due("text is blank anew", x.put(3, 79, 1), 1032);
        due("text of none", x.text(0, 0), 0);
        due("texts", x.count(9), 2);
        due("text 4", x.text(4, 1), BAD);
        due("text -1", x.text(-1, -1), BAD);
        due("text too long", x.text(0, 81), BAD);
        Check.finds("text of less than none", x, x.text(0, -1), SIZE);
    }

    private static void promise9() {
        WellLocks x = new WellLocks();
        x.text(0, 2);
        due("put", x.put(0, 1, 300), 1032);
        due("put, cut to a byte", x.put(0, 1, 128), 1044);
        due("put, below 0", x.put(0, 1, -1), 872);
        due("put, -1", x.put(0, 1, 0), 999);
        due("put 4", x.put(4, 0, 0), BAD);
        due("put -1", x.put(-1, 0, 0), BAD);
        Check.finds("put missing", x, x.put(1, 9, 0), NOTHING);
        Check.finds("put beyond", x, x.put(0, 2, 0), BEYOND);
        Check.finds("put below", x, x.put(0, -1, 0), BEYOND);
    }

    private static int faultOf(String signs) {
        WellLocks x = new WellLocks();
        Check.write(x, 2, signs);
        return x.fault(2);
    }

    private static void faultIs(String signs, int want) {
        due("fault of '" + signs + "'", faultOf(signs), want);
    }

    private static void promise10() {
        faultIs("q1000h0", NONE);
        faultIs("  q9999   h9c8   r7 d6s5m4h3   x01 x56x06  ", NONE);
        faultIs("", 0);
        faultIs("    ", 4);
        faultIs("q", 1);
        faultIs("q1", 2);
        faultIs("q10", 3);
        faultIs("q100", 4);
        faultIs("q1000", 5);
        faultIs("q1000  ", 7);
        faultIs("q1000h", 6);
        faultIs("q1000h1x", 8);
        faultIs("q1000h1h1x0", 11);
        faultIs("Q1000h1", 0);
        faultIs("h1", 0);
        faultIs(" 1", 1);
        faultIs("q0000h1", 1);
        faultIs("q 1000h1", 1);
        faultIs("qa000h1", 1);
        faultIs("q1x00h1", 2);
        faultIs("q1 000h1", 2);
        faultIs("q10:0h1", 3);
        faultIs("q100/h1", 4);
        faultIs("q100 0h1", 4);
        faultIs("q10000h1", 5);
        faultIs("q1000x01", 5);
        faultIs("q1000 h1z1", 8);
        faultIs("q1000 hh", 7);
        faultIs("q1000 h 1", 7);
        faultIs("q1000h11", 7);
        faultIs("q1000h1h1h1h1h1h1h1", NONE);
        faultIs("q1000h1h1h1h1h1h1h1h1", 19);
        faultIs("q1000h1h1h1h1h1h1h1 x67", 22);
        faultIs("q1000h1h1h1h1h1h1h1 x56", NONE);
        faultIs("q1000h1h1x02", 11);
        faultIs("q1000h1h1x21", 10);
        faultIs("q1000h1h1x11", 11);
        faultIs("q1000h1h1x10", 11);
        faultIs("q1000h1h1x 01", 10);
        faultIs("q1000h1h1x0 1", 11);
        faultIs("q1000h1h1x01h1", 12);
        faultIs("q1000h1h1x01 h1", 13);
        faultIs("q1000h1h1x01x01", 14);
        faultIs("q1000h1h1h1x01 x02 x01", 21);
        faultIs("q1000h1h1h1x01 x02 x12", NONE);
        faultIs("q1000h1q1000h1", 7);
        WellLocks x = new WellLocks();
        due("fault 4", x.fault(4), BAD);
        due("fault -1", x.fault(-1), BAD);
        Check.finds("fault of missing", x, x.fault(0), NOTHING);
        Check.write(x, 0, "q1000h1");
        x.put(0, 5, 104 + 256);
        due("a letter cut to a byte", x.fault(0), NONE);
        x.put(0, 5, 232);
        due("a letter below 0", x.fault(0), 5);
    }

    private static void promise11() {
        WellLocks x = new WellLocks();
        Check.write(x, 0, "q2104h3c4s5x12");
        Check.write(x, 1, "q0104h3c4s5x12");
        Check.finds("well of missing", x, x.well(2), NOTHING);
        due("well 4", x.well(4), BAD);
        due("well -1", x.well(-1), BAD);
        due("well of a fault", x.well(1), STATE);
        due("no well yet", x.count(0), 0);
        due("well", x.well(0), 3);
        due("water", x.count(3), 10);
        x.day();
        x.pledge(0, 1);
        x.keep(1);
        long before = x.digest();
        due("well of a fault", x.well(1), STATE);
        due("fault aside", x.fault(1), 1);
        due("as it was", x.digest(), before);
        due("well anew", x.well(0), 3);
        due("DAY anew", x.count(1), 0);
        due("DEEDS anew", x.count(2), 0);
        due("water anew", x.count(3), 10);
        due("kept wells go", x.count(10), 0);
        Check.finds("kept wells go", x, x.on(1), NOTHING);
        Check.asks("key anew", x, x.house(0, 4), 0);
        Check.write(x, 1, "q9002m1");
        due("another well", x.well(1), 1);
        due("need", x.count(4), 9);
        due("feuds of another well", x.count(5), 0);
        due("day of another well", x.day(), 2);
    }

    private static void promise12() {
        WellLocks x = Check.wellOf("q2104h3c4s5r6d7m8x12x15");
        int[] kinds = {0, 1, 4, 2, 3, 5};
        int[] weights = {1, 1, 1, 1, 2, 3};
        int[] feuds = {0, 36, 2, 0, 0, 2};
        for (int i = 0; i < 6; i++) {
            Check.asks("kind", x, x.house(i, 0), kinds[i]);
            Check.asks("heads", x, x.house(i, 1), i + 3);
            Check.asks("drew", x, x.house(i, 2), 0);
            Check.asks("drew in all", x, x.house(i, 3), 0);
            Check.asks("who holds", x, x.house(i, 4), i);
            Check.asks("weight", x, x.house(i, 5), weights[i]);
            Check.asks("feuds", x, x.house(i, 6), feuds[i]);
        }
        x.pledge(1, 0);
        x.pledge(1, 3);
        Check.asks("who holds", x, x.house(1, 4), 3);
        Check.lay(x, 0, 4, 2);
        due("drawn", x.meet(0), 9);
        Check.asks("drew", x, x.house(4, 2), 7);
        Check.asks("drew, sworn", x, x.house(2, 2), 2);
        x.day();
        Check.asks("child on an odd day", x, x.house(1, 5), 0);
        Check.asks("sworn on an odd day", x, x.house(2, 5), 0);
        Check.asks("rusty on an odd day", x, x.house(3, 5), 1);
        Check.asks("smith on an odd day", x, x.house(5, 5), 3);
        Check.asks("forgotten", x, x.house(4, 2), 0);
        Check.asks("in all", x, x.house(4, 3), 7);
        due("house 6", x.house(6, 0), BAD);
        due("house -1", x.house(-1, 0), BAD);
        due("what 7", x.house(0, 7), BAD);
        due("what -1", x.house(0, -1), BAD);
    }

    private static void promise13() {
        WellLocks x = Check.wellOf("q3104h3c4s5r6d7m8");
        int[] kinds = {0, 1, 4, 2, 3, 5};
        for (int i = 0; i < 6; i++) {
            due("kind 0", x.mark(i, 0), BAD);
            for (int kind = 1; kind <= 5; kind++) {
                boolean is = kinds[i] == kind || kinds[i] == 4 && kind == 1 || kinds[i] == 5 && kind == 3;
                if (!is) {
                    Check.finds("mark of another kind", x, x.mark(i, kind), UNLIKE);
                }
            }
        }
        due("mark 6", x.mark(6, 1), BAD);
        due("mark -1", x.mark(-1, 1), BAD);
        due("kind 6", x.mark(0, 6), BAD);
        due("kind -1", x.mark(0, -1), BAD);
        int[] rusty = {0, 2, 1, 0};
        for (int day = 0; day < 4; day++) {
            due("child", x.mark(1, 1), day % 2);
            due("sworn as a child", x.mark(2, 1), day % 2);
            due("rusty", x.mark(3, 2), rusty[day]);
            due("sworn", x.mark(2, 4), 3);
            x.day();
        }
        due("smith", x.mark(5, 5), 1);
        x.pledge(0, 5);
        x.pledge(3, 5);
        due("smith with pledges", x.mark(5, 5), 3);
        x.pledge(5, 0);
        due("smith without its own", x.mark(5, 5), 2);
        doubles();
    }

    private static void doubles() {
        // All have 2 + 3 + 1 + 1: without the double 5, without the smith 4, without one of the others 6.
        due("five, double", Check.wellOf("q5000d1m1h1h1").mark(0, 3), 1);
        due("five, smith", Check.wellOf("q5000d1m1h1h1").mark(1, 3), 0);
        due("six, double", Check.wellOf("q6000d1m1h1h1").mark(0, 3), 1);
        due("six, smith", Check.wellOf("q6000d1m1h1h1").mark(1, 3), 1);
        due("seven", Check.wellOf("q7000d1m1h1h1").mark(0, 3), 3);
        // Without one of those with the feud the rest are at peace.
        due("feud", Check.wellOf("q1000d1m1h1h1x23").mark(0, 3), 1);
        due("feud of its own", Check.wellOf("q1000d1m1h1h1x03").mark(0, 3), 2);
        WellLocks x = Check.wellOf("q5000d1m1h1h1");
        x.pledge(1, 2);
        due("a pledge", x.mark(0, 3), 1);
        due("a pledge, smith", x.mark(1, 3), 1);
        // The rusty lock counts without its key on day 0, not on day 1.
        x = Check.wellOf("q3000d1r1");
        due("rusty", x.mark(0, 3), 0);
        x.day();
        due("rusty on day 1", x.mark(0, 3), 1);
        x = Check.wellOf("q2000d1r1h1h1");
        x.pledge(0, 2);
        due("with a rusty one", x.mark(0, 3), 0);
    }

    private static void promise14() {
        WellLocks x = Check.wellOf("q2074h3c4s5m6x12");
        Check.lay(x, 0, 2, 0);
        due("meet", x.meet(0), 5);
        Check.asks("sworn drew half", x, x.house(2, 2), 2);
        Check.asks("drew", x, x.house(0, 2), 3);
        due("water", x.count(3), 2);
        due("a deed", x.count(2), 1);
        due("meet again", x.meet(0), 0);
        due("a deed all the same", x.count(2), 2);
        Check.lay(x, 0, 3, 1);
        due("the rest, smith none", x.meet(0), 2);
        Check.asks("not enough", x, x.house(1, 2), 2);
        Check.asks("smith", x, x.house(3, 2), 0);
        x.day();
        Check.lay(x, 0, 3, 1, 0);
        due("in their order", x.meet(0), 4);
        Check.asks("first", x, x.house(1, 2), 4);
        Check.asks("last", x, x.house(0, 2), 0);
        Check.asks("in all", x, x.house(1, 3), 6);
        wrongMeetings();
        emptyMeeting();
    }

    private static void wrongMeetings() {
        WellLocks x = Check.wellOf("q2104h3c4s5x12");
        due("meet 6", x.meet(6), BAD);
        due("meet -1", x.meet(-1), BAD);
        Check.finds("meet missing", x, x.meet(0), NOTHING);
        Check.lay(x, 0, 0, 1, 2, 7);
        Check.finds("too many", x, x.meet(0), SIZE);
        Check.lay(x, 0, 0, 3);
        Check.finds("no house", x, x.meet(0), UNLIKE);
        Check.lay(x, 0, 0, -1);
        Check.finds("below", x, x.meet(0), UNLIKE);
        Check.lay(x, 0, 1, 1);
        Check.finds("twice", x, x.meet(0), UNLIKE);
        Check.lay(x, 0, 1, 2);
        due("a feud", x.meet(0), STATE);
        Check.lay(x, 0, 0);
        due("too few", x.meet(0), STATE);
        for (int d = 0; d < 40; d++) {
            x.day();
        }
        due("too few, full", x.meet(0), STATE);
        Check.lay(x, 0, 0, 1);
        due("full", x.meet(0), FULL);
        Check.lay(x, 0, 0, 0);
        Check.finds("twice, full", x, x.meet(0), UNLIKE);
        x = new WellLocks();
        x.row(0, 1);
        Check.finds("no houses", x, x.meet(0), SIZE);
        x.row(0, 0);
        due("no houses, none there", x.meet(0), STATE);
    }

    private static void emptyMeeting() {
        WellLocks x = Check.wellOf("q1104r3");
        x.row(0, 0);
        due("nobody, by rust", x.meet(0), 0);
        due("a deed", x.count(2), 1);
        x.day();
        due("nobody, no rust", x.meet(0), STATE);
    }

    private static void promise15() {
        WellLocks x = Check.wellOf("q3104h3c4d5");
        due("to whom holds it", x.pledge(0, 0), STATE);
        due("pledge", x.pledge(0, 2), 0);
        due("pledge on", x.pledge(0, 1), 2);
        due("pledge back", x.pledge(0, 0), 1);
        due("deeds", x.count(2), 3);
        due("key 3", x.pledge(3, 0), BAD);
        due("key -1", x.pledge(-1, 0), BAD);
        due("to 3", x.pledge(0, 3), BAD);
        due("to -1", x.pledge(0, -1), BAD);
        x.pledge(2, 0);
        due("weight goes along", x.weight(1), 3);
        due("and away", x.weight(4), 0);
        for (int d = 4; d < 40; d++) {
            x.day();
        }
        due("full", x.pledge(0, 1), FULL);
        due("to whom holds it, full", x.pledge(0, 0), STATE);
        due("bad, full", x.pledge(0, 3), BAD);
        due("no houses", new WellLocks().pledge(0, 0), BAD);
    }

    private static void promise16() {
        WellLocks x = Check.wellOf("q1915h3");
        due("day", x.day(), 96);
        due("day", x.day(), 99);
        due("day", x.day(), 99);
        due("DAY", x.count(1), 3);
        due("deeds", x.count(2), 3);
        x.row(0, 1);
        due("meet", x.meet(0), 3);
        due("meet again", x.meet(0), 0);
        due("day", x.day(), 99);
        due("drinks again", x.meet(0), 3);
        for (int d = 7; d < 40; d++) {
            x.day();
        }
        due("full", x.day(), FULL);
        due("DAY", x.count(1), 37);
        due("no houses", new WellLocks().day(), STATE);
    }

    private static void promise17() {
        WellLocks x = Check.wellOf("q1205h3c4");
        due("undo none", x.undo(0), 0);
        due("undo 1 without deeds", x.undo(1), BAD);
        Check.lay(x, 0, 0, 1);
        long start = x.digest();
        x.meet(0);
        x.pledge(1, 0);
        long second = x.digest();
        x.day();
        x.meet(0);
        long fourth = x.digest();
        due("undo behind the last", x.undo(4), 0);
        due("undo 5", x.undo(5), BAD);
        due("undo 40", x.undo(40), BAD);
        due("undo the greatest", x.undo(Integer.MAX_VALUE), BAD);
        due("undo the least", x.undo(Integer.MIN_VALUE), BAD);
        due("undo -1", x.undo(-1), BAD);
        due("nothing changed", x.digest(), fourth);
        due("undo", x.undo(2), 2);
        due("as it was", x.digest(), second);
        due("water", x.count(3), 13);
        due("drawn again", x.meet(0), 0);
        due("undo all", x.undo(0), 3);
        due("as at first", x.digest(), start);
        due("meet after all", x.meet(0), 7);
        due("no houses", new WellLocks().undo(0), 0);
        due("no houses, 1", new WellLocks().undo(1), BAD);
        due("no houses, -1", new WellLocks().undo(-1), BAD);
        promise17Full();
    }

    private static void promise17Full() {
        WellLocks x = Check.wellOf("q1205h3c4");
        for (int d = 0; d < 40; d++) {
            x.day();
        }
        due("behind all 40", x.undo(40), 0);
        due("41", x.undo(41), BAD);
        due("the last", x.undo(39), 1);
        due("behind all 39", x.undo(39), 0);
        due("DAY", x.count(1), 39);
    }

    private static void promise18() {
        WellLocks x = new WellLocks();
        due("no houses", x.keep(0), STATE);
        due("keep 3", x.keep(3), BAD);
        due("keep -1", x.keep(-1), BAD);
        x = Check.wellOf("q1205h3c4");
        due("keep", x.keep(0), 0);
        x.day();
        due("keep", x.keep(2), 1);
        due("kept", x.count(10), 2);
        x.day();
        due("keep anew", x.keep(2), 2);
        due("kept", x.count(10), 2);
        due("still", x.count(1), 2);
    }

    private static void promise19() {
        WellLocks x = Check.wellOf("q1205h3c4");
        Check.lay(x, 0, 1);
        x.meet(0);
        x.pledge(0, 1);
        x.keep(1);
        long kept = x.digest();
        x.day();
        x.pledge(0, 0);
        x.undo(1);
        x.day();
        due("on", x.on(1), 2);
        due("as it was kept", x.digest(), kept);
        Check.asks("drew", x, x.house(1, 2), 4);
        Check.asks("holds", x, x.house(0, 4), 1);
        x.undo(0);
        due("on again", x.on(1), 2);
        due("undo behind it", x.undo(1), 1);
        Check.finds("missing", x, x.on(0), NOTHING);
        due("on 3", x.on(3), BAD);
        due("on -1", x.on(-1), BAD);
    }

    private static void promise20() {
        WellLocks x = Check.wellOf("q3104h3c4s5r6d7m8x12x45");
        weightIs(x, 0, 1, 0);
        weightIs(x, 1, 2, 0);
        weightIs(x, 8, 1, 0);
        weightIs(x, 9, 2, 0);
        weightIs(x, 16, 3, 1);
        weightIs(x, 32, 4, 1);
        weightIs(x, 48, 6, 0);
        weightIs(x, 7, 4, 0);
        weightIs(x, 63, 9, 0);
        x.pledge(3, 0);
        weightIs(x, 8, 1, 0);
        weightIs(x, 1, 2, 0);
        x.day();
        weightIs(x, 0, 0, 0);
        weightIs(x, 1, 2, 0);
        weightIs(x, 6, 0, 0);
        weightIs(x, 8, 0, 0);
        x.day();
        weightIs(x, 6, 2, 0);
        weightIs(x, 3, 3, 1);
        weightIs(x, 2, 1, 0);
        x.day();
        weightIs(x, 2, 1, 0);
        weightIs(x, 0, 1, 0);
        due("set 64", x.weight(64), BAD);
        due("set -1", x.weight(-1), BAD);
        x = new WellLocks();
        weightIs(x, 0, 0, 0);
        due("no houses", x.weight(1), BAD);
    }

    private static void weightIs(WellLocks x, int set, int weight, int opens) {
        due("weight of " + set, x.weight(set), weight);
        due("weight of " + set + " opens", x.asked(), opens);
    }

    private static void promise21() {
        WellLocks x = Check.wellOf("q2104h3c4s5x12");
        Check.tells("opens", x, x.opens(), 2, 1);
        due("fewest", x.asked(), 3);
        x.day();
        Check.tells("opens on an odd day", x, x.opens(), 0, 1);
        due("none", x.asked(), NONE);
        x = Check.wellOf("q2104h3h3d3");
        Check.tells("opens", x, x.opens(), 5, 1);
        due("fewest, not the least", x.asked(), 4);
        x = Check.wellOf("q1104r3h1");
        Check.tells("all, the empty one, too", x, x.opens(), 4, 1);
        due("empty", x.asked(), 0);
        x = new WellLocks();
        Check.tells("no houses", x, x.opens(), 0, 1);
        due("no houses", x.asked(), NONE);
    }

    private static void promise22() {
        WellLocks x = Check.wellOf("q2104h3c4s5h1x12x03");
        due("must", x.must(), 0);
        due("any", x.asked(), 15);
        x = Check.wellOf("q2104h3c4s5x12");
        due("must", x.must(), 1);
        due("any", x.asked(), 7);
        x.day();
        due("none opens", x.must(), STATE);
        due("asked stays", x.asked(), 7);
        due("no houses", new WellLocks().must(), STATE);
        x = Check.wellOf("q4000m1h1h1x12");
        due("must", x.must(), 1);
        x = Check.wellOf("q5000m1h1h1h1x12");
        due("must", x.must(), 9);
        due("any", x.asked(), 15);
        x = Check.wellOf("q1000h1h1h1x01x02x12");
        x.pledge(2, 1);
        due("not all", x.must(), 0);
        due("not all in any", x.asked(), 3);
    }

    private static void promise23() {
        WellLocks x = Check.wellOf("q2104h3c4s5x12");
        due("holds", x.holds(0), 2);
        due("holds", x.holds(1), 1);
        due("holds", x.holds(2), 1);
        due("holds 3", x.holds(3), BAD);
        due("holds -1", x.holds(-1), BAD);
        x.day();
        due("holds none", x.holds(0), 0);
        x = Check.wellOf("q1104r3h1");
        due("opens without", x.holds(0), 0);
        x.day();
        due("opens by each", x.holds(0), 1);
        due("no houses", new WellLocks().holds(0), BAD);
    }

    private static void promise24() {
        WellLocks x = Check.wellOf("q2104h3c4s5x12");
        for (int i = 0; i < 3; i++) {
            Check.tells("part", x, x.part(i), 1, 3);
        }
        x = Check.wellOf("q3104h3h4d5");
        // By house 0: d h, not d alone, not h h: orders d 0 1, and 1 d 0? No, that one is enough by d.
        Check.tells("part", x, x.part(0), 1, 6);
        Check.tells("part", x, x.part(1), 1, 6);
        Check.tells("part", x, x.part(2), 2, 3);
        x = Check.wellOf("q3104m3h4d5");
        Check.tells("all by the smith but behind both", x, x.part(0), 2, 3);
        x = Check.wellOf("q9000h1h1");
        Check.tells("never", x, x.part(0), 0, 1);
        x = Check.wellOf("q1000r1h1");
        Check.tells("without anybody", x, x.part(1), 0, 1);
        x.day();
        Check.tells("on another day", x, x.part(1), 1, 2);
        x.pledge(0, 1);
        Check.tells("pledged", x, x.part(1), 1, 1);
        due("part 2", x.part(2), BAD);
        due("part -1", x.part(-1), BAD);
        due("no houses", new WellLocks().part(0), BAD);
    }

    private static void promise25() {
        WellLocks x = Check.wellOf("q2104h3c4s5x12");
        due("drink", x.drink(3), 2);
        Check.rowIs("drink", x, 3, 3, 5);
        Check.lay(x, 0, 0, 1);
        x.meet(0);
        due("those yet thirsty", x.drink(3), 1);
        Check.rowIs("those yet thirsty", x, 3, 5);
        Check.lay(x, 0, 0, 2);
        x.meet(0);
        due("none thirsty", x.drink(3), 0);
        Check.rowIs("none thirsty", x, 3);
        x.day();
        Check.lay(x, 3, 8);
        due("by none", x.drink(3), NONE);
        Check.rowIs("as it was", x, 3, 8);
        due("row 6", x.drink(6), BAD);
        due("row -1", x.drink(-1), BAD);
        due("no houses", new WellLocks().drink(0), STATE);
        due("no houses, row 6", new WellLocks().drink(6), BAD);
        x = Check.wellOf("q1000h1h1h1x01x02x12");
        due("one by one", x.drink(0), 3);
        Check.rowIs("one by one", x, 0, 1, 2, 4);
        x = Check.wellOf("q3000h1h1h1h1x01");
        due("first row", x.drink(0), 2);
        Check.rowIs("first row", x, 0, 13, 14);
        x = Check.wellOf("q9000h0m9");
        due("none wants", x.drink(0), 0);
        due("a row of none", x.count(8), 1);
        x = Check.wellOf("q1000h1h1h1h1x01x23");
        due("least set first", x.drink(0), 2);
        Check.rowIs("least set first", x, 0, 5, 10);
    }

    private static void promise26() {
        WellLocks x = Check.wellOf("q1064h5c3s6h0m6h9x35");
        // They want 5, 3, 3, 0, 0, 9 of 6 buckets.
        due("best", x.best(7, 2), 2);
        Check.rowIs("best", x, 2, 1, 2, 0);
        due("none wants", x.best(24, 2), 0);
        Check.rowIs("none wants", x, 2, 3, 4);
        due("too much", x.best(48, 2), 0);
        Check.rowIs("too much", x, 2, 4, 5);
        due("those without thirst first", x.best(31, 2), 2);
        Check.rowIs("those without thirst first", x, 2, 1, 2, 0, 3, 4);
        due("one", x.best(33, 2), 1);
        Check.rowIs("one", x, 2, 0, 5);
        due("feud", x.best(40, 2), STATE);
        due("none there", x.best(0, 2), STATE);
        due("set 64", x.best(64, 2), BAD);
        due("set -1", x.best(-1, 2), BAD);
        due("row 6", x.best(7, 6), BAD);
        due("row 6, feud", x.best(40, 6), BAD);
        Check.rowIs("as it was", x, 2, 0, 5);
        Check.lay(x, 0, 1);
        x.meet(0);
        due("what they want yet", x.best(7, 2), 1);
        Check.rowIs("what they want yet", x, 2, 1, 2, 0);
        due("no houses", new WellLocks().best(0, 0), STATE);
        due("no houses", new WellLocks().best(1, 0), BAD);
        x = Check.wellOf("q1000r4");
        due("an empty set by rust", x.best(0, 0), 0);
        Check.rowIs("an empty set by rust", x, 0);
        x = Check.wellOf("q1054h4h1h4");
        due("first of them", x.best(7, 0), 2);
        Check.rowIs("first of them", x, 0, 0, 1, 2);
    }

    private static void promise27() {
        WellLocks x = Check.wellOf("q1104h5c3s6m9h9");
        // They want 5, 3, 3, 0, 9 of 10.
        due("ration", x.ration(), 2);
        due("together", x.asked(), 8);
        Check.lay(x, 0, 1);
        x.meet(0);
        due("ration", x.ration(), 2);
        due("together", x.asked(), 6);
        x = Check.wellOf("q1004h5");
        due("dry", x.ration(), 0);
        due("dry together", x.asked(), 0);
        x = Check.wellOf("q1054h5m9");
        due("enough", x.ration(), 99);
        due("enough together", x.asked(), 5);
        x = Check.wellOf("q1044h5m9");
        due("just not enough", x.ration(), 4);
        due("no houses", new WellLocks().ration(), STATE);
    }

    private static void promise28() {
        WellLocks x = Check.wellOf("q1054h3c3s6m9h9x04");
        // They want 3, 3, 3, 0, 9 of 5.
        Check.tells("none", x, x.frogs(0), 1, 1);
        due("the smith", x.asked(), 8);
        Check.tells("three", x, x.frogs(3), 6, 1);
        due("no one in all", x.asked(), 0);
        Check.tells("all of it", x, x.frogs(5), 16, 1);
        due("no one in all", x.asked(), 0);
        Check.tells("what can't be", x, x.frogs(4), 0, 1);
        due("none", x.asked(), 0);
        x.frogs(0);
        due("frogs -1", x.frogs(-1), BAD);
        due("frogs 100", x.frogs(100), BAD);
        due("asked stays", x.asked(), 8);
        due("upper stays", x.upper(), 1);
        Check.tells("99", x, x.frogs(99), 0, 1);
        x = Check.wellOf("q2994h3h4h5");
        Check.tells("eight", x, x.frogs(8), 1, 1);
        due("who", x.asked(), 5);
        x = new WellLocks();
        Check.tells("no houses", x, x.frogs(0), 0, 1);
    }

    private static void promise29() {
        WellLocks x = Check.wellOf("q3104h3c4d5r6m7x01");
        Check.lay(x, 0, 6, 1, 24, 0);
        due("twice", x.twice(0), 6);
        Check.lay(x, 0, 12, 0);
        due("not these", x.twice(0), 19);
        Check.lay(x, 0, 28, 1);
        due("three are enough", x.twice(0), 31);
        Check.lay(x, 0, 19, 1);
        due("a feud", x.twice(0), 0);
        Check.lay(x, 0, 19, 0, 3, 0, 31, 0);
        due("a feud does not", x.twice(0), 31);
        x.pledge(2, 0);
        x.day();
        Check.lay(x, 0, 20, 1);
        due("keys aside, kinds aside", x.twice(0), 20);
        due("row 6", x.twice(6), BAD);
        wrongPairs(true);
        x = new WellLocks();
        x.row(0, 0);
        due("no houses", x.twice(0), 0);
        x.row(0, 2);
        due("no houses, the empty set", x.twice(0), 0);
    }

    private static int byPairs(WellLocks x, boolean twice, int r) {
        return twice ? x.twice(r) : x.quorum(r);
    }

    private static void wrongPairs(boolean twice) {
        WellLocks x = Check.wellOf("q3104h3c4d5r6m7x01");
        due("pairs 6", byPairs(x, twice, 6), BAD);
        due("pairs -1", byPairs(x, twice, -1), BAD);
        Check.finds("pairs missing", x, byPairs(x, twice, 1), NOTHING);
        Check.lay(x, 1, 99, 0, 0);
        Check.finds("not by pairs", x, byPairs(x, twice, 1), SIZE);
        x.row(1, 18);
        x.lay(1, 0, 99);
        Check.finds("too many", x, byPairs(x, twice, 1), SIZE);
        x.row(1, 16);
        due("eight", byPairs(x, twice, 1), twice ? 31 : 1020);
        Check.lay(x, 1, 0, 0, 32, 0);
        Check.finds("no set", x, byPairs(x, twice, 1), UNLIKE);
        Check.lay(x, 1, -1, 0);
        Check.finds("below", x, byPairs(x, twice, 1), UNLIKE);
        Check.lay(x, 1, 1, 2);
        Check.finds("neither", x, byPairs(x, twice, 1), UNLIKE);
        Check.lay(x, 1, 1, -1);
        Check.finds("neither", x, byPairs(x, twice, 1), UNLIKE);
        x.row(1, 0);
        due("of none", byPairs(x, twice, 1), twice ? 31 : 1022);
    }

    private static void promise30() {
        WellLocks x = Check.wellOf("q3104h3c4d5r6m7x01");
        // The rusty lock counts on day 0.
        Check.lay(x, 0, 5, 1);
        due("up to 4", x.quorum(0), 30);
        Check.lay(x, 0, 5, 1, 4, 0);
        due("just 4", x.quorum(0), 16);
        Check.lay(x, 0, 3, 1);
        due("a feud", x.quorum(0), 0);
        Check.lay(x, 0, 3, 0);
        due("a feud does not", x.quorum(0), 1022);
        x.pledge(4, 0);
        x.day();
        Check.lay(x, 0, 1, 1, 2, 0);
        due("keys as they are", x.quorum(0), 30);
        wrongPairs(false);
        x = new WellLocks();
        x.row(0, 2);
        due("no houses, it does not open", x.quorum(0), 1022);
        x.lay(0, 1, 1);
        due("no houses, it opens", x.quorum(0), 0);
    }

    private static void callIs(String signs, int wins, int first) {
        WellLocks x = Check.wellOf(signs);
        due("call " + signs, x.call(), wins);
        due("first " + signs, x.first(), first);
    }

    private static void promise31and32() {
        callIs("q1000h1", 1, 0);
        callIs("q2000h1", 0, NONE);
        callIs("q2000h1d1", 1, 1);
        callIs("q2000h1h1", 0, NONE);
        callIs("q2000h1h1h1", 1, 0);
        callIs("q3000h1h1d1h1", 1, 2);
        // If 0 comes, the other one sends 3 home, and the next one called has a feud with 0.
        callIs("q1000h1h1h1h1x01x02", 1, 1);
        callIs("q1000h1h1h1x01x02", 0, NONE);
        callIs("q1000h1h1h1x01x02x12", 0, NONE);
        callIs("q1000r1h1x01", 1, 0);
        WellLocks x = Check.wellOf("q1000c1c1");
        x.day();
        due("an odd day", x.call(), 0);
        due("an odd day", x.first(), NONE);
        due("no houses", new WellLocks().call(), STATE);
        due("no houses", new WellLocks().first(), STATE);
    }

    private static void promise33() {
        WellLocks x = Check.wellOf("q2104h3c4s5x12");
        Check.tells("half", x, x.odds(6), 1, 4);
        Check.tells("never", x, x.odds(0), 0, 1);
        Check.tells("all come", x, x.odds(12), 0, 1);
        Check.tells("a quarter", x, x.odds(3), 3, 32);
        due("odds 13", x.odds(13), BAD);
        due("odds -1", x.odds(-1), BAD);
        due("upper stays", x.upper(), 3);
        due("lower stays", x.lower(), 32);
        x = Check.wellOf("q1000r1h1");
        Check.tells("by rust", x, x.odds(0), 1, 1);
        Check.tells("by rust", x, x.odds(5), 1, 1);
        x.day();
        Check.tells("one of two", x, x.odds(5), 95, 144);
        due("no houses", new WellLocks().odds(5), STATE);
        due("no houses", new WellLocks().odds(13), BAD);
    }

    private static void promise34() {
        WellLocks x = Check.wellOf("q2104h3c4s5x12");
        // {0, 1} draws 7, {0, 2} draws 5, each by an eighth.
        Check.tells("half", x, x.mid(6), 3, 2);
        Check.tells("never", x, x.mid(0), 0, 1);
        due("mid 13", x.mid(13), BAD);
        due("mid -1", x.mid(-1), BAD);
        x = Check.wellOf("q2064h3c4s5x12");
        Check.tells("no more than there is", x, x.mid(6), 11, 8);
        Check.lay(x, 0, 0, 2);
        x.meet(0);
        Check.tells("what they want yet", x, x.mid(6), 1, 8);
        x = Check.wellOf("q1505h3h4");
        Check.tells("all come", x, x.mid(12), 7, 1);
        due("no houses", new WellLocks().mid(5), STATE);
        due("no houses", new WellLocks().mid(-1), BAD);
    }

    private static void promise35() {
        // Seed 1: 48271, 182605794, 1291394886, 1914720637; by 8: 6033, 22825724, 161424360, 239340079.
        WellLocks x = Check.wellOf("q1205h3c4");
        // Sets 1, 0, 0, 3.
        due("lots", x.lots(4, 1), 3 + 7);
        due("deeds", x.count(2), 6);
        due("DAY", x.count(1), 4);
        due("water", x.count(3), 20 - 10 + 20);
        Check.asks("drew", x, x.house(0, 3), 6);
        Check.asks("drew", x, x.house(1, 3), 4);
        Check.asks("forgotten", x, x.house(1, 2), 0);
        due("undo the last day and meeting", x.undo(4), 2);
        due("DAY", x.count(1), 3);
        due("water", x.count(3), 20 - 3 + 15);
        due("greatest seed", x.lots(1, 2147483646), 0);
        due("lots 0", x.lots(0, 1), BAD);
        due("lots 21", x.lots(21, 1), BAD);
        due("seed 0", x.lots(1, 0), BAD);
        due("seed -1", x.lots(1, -1), BAD);
        due("seed too great", x.lots(1, MAX), BAD);
        due("no houses", new WellLocks().lots(1, 1), STATE);
        due("no houses, seed 0", new WellLocks().lots(1, 0), BAD);
        x = Check.wellOf("q1205h3c4");
        due("all", x.lots(20, 1) > 0 ? 1 : 0, 1);
        x = Check.wellOf("q1205h3c4");
        x.day();
        due("one too many", x.lots(20, 1), FULL);
        due("as it was", x.count(2), 1);
        due("as many", x.lots(19, 1) > 0 ? 1 : 0, 1);
        x = Check.wellOf("q2000h3h4");
        x.lots(3, 1);
        due("not opened is no deed", x.count(2), 3);
        x = Check.wellOf("q2040h3h3");
        due("in rising order", x.lots(4, 1), 4);
        Check.asks("first", x, x.house(0, 3), 3);
        Check.asks("then", x, x.house(1, 3), 1);
    }

    private static void promise36() {
        WellLocks x = new WellLocks();
        due("before", x.asked(), 0);
        Check.write(x, 0, "q1205h3c4");
        due("before", x.asked(), 0);
        x.well(0);
        Check.lay(x, 0, 5, 9);
        due("lay", x.asked(), 0);
        x.at(0, 1);
        due("at", x.asked(), 9);
        x.mean(0);
        due("mean", x.asked(), 7);
        x.at(0, 2);
        x.at(7, 2);
        x.mean(5);
        x.house(9, 9);
        x.lay(0, 2, 0);
        x.weight(4);
        x.frogs(-1);
        due("refused", x.asked(), 7);
        x.house(1, 1);
        due("house", x.asked(), 4);
        x.count(3);
        x.digest();
        x.mark(1, 1);
        x.holds(0);
        x.part(0);
        x.drink(1);
        x.best(3, 1);
        x.odds(6);
        x.mid(6);
        x.call();
        x.first();
        x.pledge(0, 1);
        x.day();
        x.keep(0);
        x.on(0);
        x.undo(0);
        x.lots(1, 1);
        x.undo(0);
        due("not by these", x.asked(), 4);
        x.weight(3);
        due("weight", x.asked(), 1);
        x.weight(0);
        due("weight", x.asked(), 0);
        x.must();
        due("must", x.asked(), 3);
        x.opens();
        due("opens", x.asked(), 1);
        x.ration();
        due("ration", x.asked(), 7);
        x.frogs(4);
        due("frogs", x.asked(), 2);
    }

    private static void promise37and38() {
        WellLocks x = Check.wellOf("q2104h3c4s5x12");
        due("upper before", x.upper(), 0);
        due("lower before", x.lower(), 1);
        x.odds(3);
        due("upper", x.upper(), 3);
        due("lower", x.lower(), 32);
        x.part(9);
        x.odds(99);
        x.mid(99);
        x.frogs(100);
        x.weight(3);
        due("upper stays", x.upper(), 3);
        due("lower stays", x.lower(), 32);
        x.opens();
        due("upper", x.upper(), 2);
        due("lower", x.lower(), 1);
        x.part(1);
        x.frogs(7);
        due("upper", x.upper(), 1);
        due("lower", x.lower(), 1);
        x.mid(0);
        due("0", x.upper(), 0);
        due("by 1", x.lower(), 1);
    }

    private static void promise39() {
        WellLocks x = Check.wellOf("q3124h3c4s5r6d7m8c1x12x14");
        x.text(3, 1);
        x.row(1, 1);
        x.row(4, 1);
        x.row(5, 1);
        x.pledge(0, 1);
        x.day();
        x.day();
        x.keep(0);
        x.keep(2);
        int[] counts = {7, 2, 3, 20, 3, 2, 3, 2, 3, 2, 2};
        for (int what = 0; what < counts.length; what++) {
            due("count " + what, x.count(what), counts[what]);
        }
        due("count 11", x.count(11), BAD);
        due("count -1", x.count(-1), BAD);
    }

    private static void promise40and41() {
        WellLocks x = new WellLocks();
        due("finding before", x.finding(), 0);
        for (int f = 1; f <= 5; f++) {
            due("findings before", x.findings(f), 0);
        }
        x.at(0, 0);
        x.at(0, 0);
        due("nothing", x.finding(), NOTHING);
        x.row(0, 0);
        x.at(0, 0);
        due("beyond", x.finding(), BEYOND);
        x.mean(0);
        due("nought", x.finding(), NOUGHT);
        x.row(0, -1);
        due("size", x.finding(), SIZE);
        x.row(0, 99);
        x.day();
        due("the latest", x.finding(), SIZE);
        Check.write(x, 0, "q1000h1");
        x.well(0);
        x.mark(0, 1);
        due("unlike", x.finding(), UNLIKE);
        int[] counts = {0, 2, 1, 1, 1, 1};
        for (int f = 1; f <= 5; f++) {
            due("findings " + f, x.findings(f), counts[f]);
        }
        due("findings 0", x.findings(0), BAD);
        due("findings 6", x.findings(6), BAD);
        due("findings -1", x.findings(-1), BAD);
        due("findings as they were", x.findings(NOTHING), 2);
    }

    private static long fold(long start, long... values) {
        long h = start;
        for (long v : values) {
            h = 31 * h + v;
        }
        return h;
    }

    private static void promise42() {
        WellLocks x = new WellLocks();
        long none = fold(17, 0, 0, 0, 0, 0, 0, 0, 0, 0, 0, 0);
        due("digest of nothing", x.digest(), fold(none, -1, -1, -1, -1, -1, -1, -1, -1, -1, -1, -1, -1, -1));
        x = new WellLocks();
        Check.write(x, 1, "q1104c3m2x01");
        x.well(1);
        Check.lay(x, 2, 0);
        x.meet(2);
        x.keep(1);
        x.pledge(1, 0);
        x.day();
        x.row(0, 0);
        x.put(1, 0, 255);
        long h = fold(17, 2, 1, 3, 11, 1, 1, 1, 1, 2, 1, 1);
        h = fold(h, 1, 3, 0, 3, 0, 0, 2);
        h = fold(h, 5, 2, 0, 0, 0, 3, 1);
        h = fold(h, -1, 1, -1);
        h = fold(h, 0, -1, 1, 0, -1, -1, -1);
        h = fold(h, -1, 12, -1, 49, 49, 48, 52, 99, 51, 109, 50, 120, 48, 49, -1, -1);
        due("digest", x.digest(), h);
        due("digest again", x.digest(), h);
    }
}
