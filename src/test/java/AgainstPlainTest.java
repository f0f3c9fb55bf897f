import java.lang.reflect.InvocationTargetException;
import java.lang.reflect.Method;
import java.lang.reflect.Modifier;
import java.util.ArrayList;
import java.util.Arrays;
import java.util.Comparator;
import java.util.List;
import java.util.Random;

/** Runs of calls by chance, of a fixed seed, on WellLocks and on the brute model: all that is told must agree. */
public final class AgainstPlainTest {
    private static final int RUNS = 1500;
    private static final int CALLS = 400;
    private static final int[] WILD = {
        Integer.MIN_VALUE, Integer.MAX_VALUE, -1, 0, 1, 6, 7, 8, 40, 41, 80, 81, 127, 128, 100, -9, 1 << 30, -2147483647
    };
    private static final List<Method> CALLED = new ArrayList<>();
    private static final List<Method> MODELLED = new ArrayList<>();

    public static void main(String[] args) throws ReflectiveOperationException {
        Method[] all = WellLocks.class.getDeclaredMethods();
        Arrays.sort(all, Comparator.comparing(Method::getName));
        for (Method m : all) {
            if (Modifier.isPublic(m.getModifiers())) {
                CALLED.add(m);
                MODELLED.add(Plain.class.getMethod(m.getName(), m.getParameterTypes()));
            }
        }
        Check.due("calls of the face", CALLED.size(), 42 - 1);
        for (int run = 0; run < RUNS && !Check.anyWrong(); run++) {
            oneRun(run);
        }
        Check.end();
    }

    private static void oneRun(int run) throws ReflectiveOperationException {
        Random by = new Random(7919L * run + 5);
        WellLocks x = new WellLocks();
        Plain y = new Plain();
        StringBuilder story = new StringBuilder();
        boolean small = run % 4 != 0;
        for (int call = 0; call < CALLS; call++) {
            if (call == 3 || by.nextInt(120) == 0) {
                layText(x, y, by, small);
            }
            if (by.nextInt(5) == 0) {
                layRow(x, y, by);
            }
            compareCall(run, x, y, by, story);
            if (Check.anyWrong()) {
                System.out.println("run " + run + story);
                return;
            }
        }
    }

    private static void compareCall(int run, WellLocks x, Plain y, Random by, StringBuilder story)
            throws ReflectiveOperationException {
        int which = by.nextInt(CALLED.size());
        Method m = CALLED.get(which);
        Object[] args = argumentsOf(m, x, by);
        String said = m.getName() + Arrays.toString(args);
        story.append('\n').append(said);
        Check.due("run " + run + ": " + said, answer(m, x, args), answer(MODELLED.get(which), y, args));
        Check.due("then asked", x.asked(), y.asked());
        Check.due("then upper", x.upper(), y.upper());
        Check.due("then lower", x.lower(), y.lower());
        Check.due("then finding", x.finding(), y.finding());
        Check.due("then digest", x.digest(), y.digest());
        for (int f = 1; f <= 5; f++) {
            Check.due("then findings", x.findings(f), y.findings(f));
        }
    }

    private static long answer(Method m, Object on, Object[] args) throws ReflectiveOperationException {
        try {
            return ((Number) m.invoke(on, args)).longValue();
        } catch (InvocationTargetException thrown) {
            thrown.getCause().printStackTrace(System.out);
            return on instanceof WellLocks ? -987654321L : -123456789L;
        }
    }

    private static Object[] argumentsOf(Method m, WellLocks x, Random by) {
        Object[] args = new Object[m.getParameterCount()];
        for (int i = 0; i < args.length; i++) {
            args[i] = by.nextInt(25) == 0 ? WILD[by.nextInt(WILD.length)] : likely(m.getName(), i, x, by);
        }
        return args;
    }

    private static int likely(String name, int i, WellLocks x, Random by) {
        int houses = Math.max(1, x.count(0));
        switch (name) {
            case "weight": return by.nextInt(1 << houses);
            case "best": return i == 0 ? by.nextInt(1 << houses) : by.nextInt(6);
            case "frogs": return by.nextInt(30);
            case "odds": case "mid": return by.nextInt(13);
            case "lots": return i == 0 ? 1 + by.nextInt(6) : 1 + by.nextInt(Integer.MAX_VALUE - 1);
            case "undo": return by.nextInt(2 + x.count(2));
            case "put": return i == 2 ? "qhcrdsmx 0123456789".charAt(by.nextInt(19)) : by.nextInt(i == 0 ? 4 : 40);
            case "text": return i == 0 ? by.nextInt(4) : by.nextInt(81);
            case "row": return i == 0 ? by.nextInt(6) : by.nextInt(12);
            case "count": return by.nextInt(11);
            case "keep": case "on": return by.nextInt(3);
            case "house": case "pledge": case "holds": case "part":
                return i == 0 ? by.nextInt(houses) : by.nextInt(8);
            case "mark": return i == 0 ? by.nextInt(houses) : 1 + by.nextInt(5);
            default: return by.nextInt(7);
        }
    }

    /** A row of houses in some order, or of pairs. */
    private static void layRow(WellLocks x, Plain y, Random by) {
        int r = by.nextInt(6);
        boolean pairs = by.nextBoolean();
        int houses = Math.max(1, x.count(0));
        int n = pairs ? 2 * by.nextInt(4) : by.nextInt(houses + 1);
        x.row(r, n);
        y.row(r, n);
        List<Integer> order = new ArrayList<>();
        for (int i = 0; i < houses; i++) {
            order.add(i);
        }
        java.util.Collections.shuffle(order, by);
        for (int i = 0; i < n; i++) {
            int v = pairs ? (i % 2 == 0 ? by.nextInt(1 << houses) : by.nextInt(2)) : order.get(i);
            x.lay(r, i, v);
            y.lay(r, i, v);
        }
    }

    /** A text of a well, sometimes with a sign changed, cut off or put in; then a well by it. */
    private static void layText(WellLocks x, Plain y, Random by, boolean small) {
        StringBuilder s = new StringBuilder(wellText(by, small));
        if (by.nextInt(3) == 0) {
            int place = by.nextInt(s.length());
            String sign = "qhcrdsmx 0123456789z".substring(by.nextInt(20)).substring(0, 1);
            switch (by.nextInt(3)) {
                case 0: s.setCharAt(place, sign.charAt(0)); break;
                case 1: s.setLength(place); break;
                default: s.insert(place, sign);
            }
        }
        String signs = s.substring(0, Math.min(80, s.length()));
        int t = by.nextInt(4);
        x.text(t, signs.length());
        y.text(t, signs.length());
        for (int i = 0; i < signs.length(); i++) {
            x.put(t, i, signs.charAt(i));
            y.put(t, i, signs.charAt(i));
        }
        Check.due("fault of '" + signs + "'", x.fault(t), y.fault(t));
        Check.due("well of '" + signs + "'", x.well(t), y.well(t));
    }

    private static String wellText(Random by, boolean small) {
        StringBuilder s = new StringBuilder(blanks(by));
        int houses = 1 + by.nextInt(small ? 5 : 7);
        s.append('q').append(1 + by.nextInt(by.nextInt(4) == 0 ? 9 : 4));
        s.append(by.nextInt(4)).append(by.nextInt(10)).append(by.nextInt(10)).append(blanks(by));
        for (int i = 0; i < houses; i++) {
            s.append("hcrdsm".charAt(by.nextInt(6))).append(by.nextInt(10)).append(blanks(by));
        }
        int chance = by.nextInt(4);
        List<String> feuds = new ArrayList<>();
        for (int i = 0; i < houses; i++) {
            for (int j = i + 1; j < houses; j++) {
                if (by.nextInt(4) < chance) {
                    feuds.add("x" + i + j);
                }
            }
        }
        java.util.Collections.shuffle(feuds, by);
        for (String feud : feuds) {
            s.append(feud).append(blanks(by));
        }
        return s.toString();
    }

    private static String blanks(Random by) {
        return by.nextInt(6) == 0 ? " ".repeat(1 + by.nextInt(2)) : "";
    }
}
