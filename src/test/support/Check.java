/** What the project's tests share: counts wrong answers and sets wells up. */
public final class Check {
    private static int wrong = 0;
    private static String sentence = "";

    private Check() {
    }

    /** What the answers that follow are due by. */
    public static void by(String words) {
        sentence = words.isEmpty() ? "" : "'" + words + "': ";
    }

    public static void due(String what, long got, long want) {
        if (got != want) {
            wrong++;
            if (wrong <= 40) {
                System.out.println(sentence + what + " answered " + got + ", due is " + want);
            }
        }
    }

    public static void end() {
        System.out.println(wrong == 0 ? "all answers are as due" : wrong + " answers are not as due");
        if (wrong != 0) {
            System.exit(1);
        }
    }

    public static boolean anyWrong() {
        return wrong != 0;
    }

    /** Lays a text. */
    public static void write(WellLocks x, int t, String signs) {
        due("text", x.text(t, signs.length()), signs.length());
        for (int i = 0; i < signs.length(); i++) {
            due("put", x.put(t, i, signs.charAt(i)), 1032);
        }
    }

    /** Lays a row. */
    public static void lay(WellLocks x, int r, int... values) {
        due("row", x.row(r, values.length), values.length);
        for (int i = 0; i < values.length; i++) {
            due("lay", x.lay(r, i, values[i]), 1);
        }
    }

    /** A new object with a well by a text. */
    public static WellLocks wellOf(String signs) {
        WellLocks x = new WellLocks();
        write(x, 0, signs);
        due("fault of " + signs, x.fault(0), WellLocks.NONE);
        due("well of " + signs + " has houses", x.well(0) > 0 ? 1 : 0, 1);
        return x;
    }

    /** The answer is 1 and asked() tells the value. */
    public static void asks(String what, WellLocks x, int answer, int value) {
        due(what, answer, 1);
        due(what + ", asked()", x.asked(), value);
    }

    /** The answer is 1 and upper(), lower() tell the part. */
    public static void tells(String what, WellLocks x, int answer, long upper, long lower) {
        due(what, answer, 1);
        due(what + ", upper()", x.upper(), upper);
        due(what + ", lower()", x.lower(), lower);
    }

    /** A FINDING was answered, this one. */
    public static void finds(String what, WellLocks x, int answer, int finding) {
        due(what, answer, WellLocks.FINDING);
        due(what + ", finding()", x.finding(), finding);
    }

    /** A row has just these places. */
    public static void rowIs(String what, WellLocks x, int r, int... values) {
        for (int i = 0; i < values.length; i++) {
            asks(what + ", place " + i, x, x.at(r, i), values[i]);
        }
        due(what + ", behind its end", x.at(r, values.length), WellLocks.FINDING);
        due(what + ", behind its end, finding()", x.finding(), 2);
    }
}
