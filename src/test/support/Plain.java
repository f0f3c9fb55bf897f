import java.math.BigInteger;
import java.util.ArrayList;
import java.util.Arrays;
import java.util.List;
import java.util.function.IntPredicate;
import java.util.regex.Matcher;
import java.util.regex.Pattern;

/** The document once more, by brute force and with the whole library: what WellLocks is held against. */
public final class Plain {
    private static final int BAD = -1, FULL = -2, FINDING = -3, STATE = -4, NONE = -9;
    private static final Pattern SHAPE =
        Pattern.compile(" *q[1-9][0-9]{2}[0-9] *([hcrdsm][0-9] *){1,7}(x[0-6][0-6] *)*");

    private final int[][] rows = new int[6][];
    private final byte[][] texts = new byte[4][];
    private List<State> past = new ArrayList<>();
    private final List<List<State>> kept = new ArrayList<>(Arrays.asList(null, null, null));
    private String letters = "";
    private int[] heads = {};
    private boolean[][] feud = {};
    private int need = 0;
    private int comes = 0;
    private int asked = 0;
    private BigInteger upper = BigInteger.ZERO;
    private BigInteger lower = BigInteger.ONE;
    private int finding = 0;
    private final int[] findings = new int[6];

    /** The well between two deeds; the last one of the past is now. */
    private record State(int water, int day, List<Integer> holders, List<Integer> today, List<Integer> all) {
    }

    public Plain() {
        past.add(new State(0, 0, List.of(), List.of(), List.of()));
    }

    private State now() {
        return past.get(past.size() - 1);
    }

    private int houses() {
        return letters.length();
    }

    private int sets() {
        return (int) Math.pow(2, houses());
    }

    private int find(int f) {
        finding = f;
        findings[f]++;
        return FINDING;
    }

    private static boolean within(int v, int low, int high) {
        return v >= low && v <= high;
    }

    // ---- 1

    public int row(int r, int n) {
        if (!within(r, 0, 5) || n > 40) return BAD;
        if (n < 0) return find(5);
        rows[r] = new int[n];
        return n;
    }

    public int lay(int r, int i, int v) {
        int was = at(r, i);
        if (was == 1) rows[r][i] = v;
        return was;
    }

    public int at(int r, int i) {
        if (!within(r, 0, 5)) return BAD;
        if (rows[r] == null) return find(1);
        if (!within(i, 0, rows[r].length - 1)) return find(2);
        asked = rows[r][i];
        return 1;
    }

    public int tear(int r) {
        if (!within(r, 0, 5)) return BAD;
        if (rows[r] == null) return find(1);
        rows[r] = null;
        return 1;
    }

    public int copy(int r, int i, int to, int j, int n) {
        if (!within(r, 0, 5) || !within(to, 0, 5)) return BAD;
        if (n < 0) return find(5);
        if (rows[r] == null || rows[to] == null) return find(1);
        if (i < 0 || j < 0 || (long) i + n > rows[r].length || (long) j + n > rows[to].length) return find(2);
        int[] ahead = rows[r].clone();
        for (int k = 0; k < n; k++) rows[to][j + k] = ahead[i + k];
        return 1;
    }

    public int mean(int r) {
        if (!within(r, 0, 5)) return BAD;
        if (rows[r] == null) return find(1);
        if (rows[r].length == 0) return find(4);
        BigInteger sum = BigInteger.ZERO;
        for (int v : rows[r]) sum = sum.add(BigInteger.valueOf(v));
        asked = sum.divide(BigInteger.valueOf(rows[r].length)).intValueExact();
        return 1;
    }

    public int text(int t, int n) {
        if (!within(t, 0, 3) || n > 80) return BAD;
        if (n < 0) return find(5);
        texts[t] = " ".repeat(n).getBytes(java.nio.charset.StandardCharsets.ISO_8859_1);
        return n;
    }

    public int put(int t, int i, int v) {
        if (!within(t, 0, 3)) return BAD;
        if (texts[t] == null) return find(1);
        if (!within(i, 0, texts[t].length - 1)) return find(2);
        int was = texts[t][i];
        texts[t][i] = (byte) v;
        return 1000 + was;
    }

    public int fault(int t) {
        if (!within(t, 0, 3)) return BAD;
        if (texts[t] == null) return find(1);
        return faultOf(new String(texts[t], java.nio.charset.StandardCharsets.ISO_8859_1));
    }

    /** The first sign with which what came so far can't be the beginning of a well any more. */
    private static int faultOf(String s) {
        for (int end = 1; end <= s.length(); end++) {
            if (!canGoOn(s.substring(0, end))) return end - 1;
        }
        return SHAPE.matcher(s).matches() ? NONE : s.length();
    }

    private static boolean canGoOn(String start) {
        Matcher m = SHAPE.matcher(start);
        if (!m.matches() && !m.hitEnd()) return false;
        int x = start.indexOf('x');
        if (x < 0) return true;
        int many = start.substring(0, x).replaceAll("[^hcrdsm]", "").length();
        List<String> told = new ArrayList<>();
        for (String feud : start.substring(x).replace(" ", "").split("x")) {
            if (feud.length() > 0 && feud.charAt(0) - '0' >= many) return false;
            if (feud.length() > 1 && feud.charAt(1) - '0' >= many) return false;
            if (feud.length() > 1 && feud.charAt(0) >= feud.charAt(1)) return false;
            if (told.contains(feud) && feud.length() > 1) return false;
            told.add(feud);
        }
        return true;
    }

    public int well(int t) {
        int f = fault(t);
        if (f == BAD || f == FINDING) return f;
        if (f != NONE) return STATE;
        String s = new String(texts[t]).replace(" ", "");
        need = s.charAt(1) - '0';
        comes = s.charAt(4) - '0';
        String[] parts = s.substring(5).split("x");
        int many = parts[0].length() / 2;
        letters = parts[0].replaceAll("[0-9]", "");
        heads = new int[many];
        feud = new boolean[many][many];
        for (int i = 0; i < many; i++) heads[i] = parts[0].charAt(2 * i + 1) - '0';
        for (int k = 1; k < parts.length; k++) {
            int a = parts[k].charAt(0) - '0';
            int b = parts[k].charAt(1) - '0';
            feud[a][b] = true;
            feud[b][a] = true;
        }
        List<Integer> own = new ArrayList<>();
        List<Integer> none = new ArrayList<>();
        for (int i = 0; i < many; i++) {
            own.add(i);
            none.add(0);
        }
        past = new ArrayList<>();
        past.add(new State(Integer.parseInt(s.substring(2, 4)), 0, own, none, none));
        for (int k = 0; k < 3; k++) kept.set(k, null);
        return many;
    }

    public int house(int i, int what) {
        if (!within(i, 0, houses() - 1) || !within(what, 0, 6)) return BAD;
        asked = fact(i, what);
        return 1;
    }

    private int fact(int i, int what) {
        if (what == 0) return "hcrdsm".indexOf(letters.charAt(i));
        if (what == 1) return heads[i];
        if (what == 2) return now().today().get(i);
        if (what == 3) return now().all().get(i);
        if (what == 4) return now().holders().get(i);
        if (what == 5) return keyWeight(i);
        int bits = 0;
        for (int j = 0; j < houses(); j++) bits += feud[i][j] ? (int) Math.pow(2, j) : 0;
        return bits;
    }

    private boolean is(int i, String kinds) {
        return kinds.indexOf(letters.charAt(i)) >= 0;
    }

    private int keyWeight(int i) {
        int weight = 1;
        if (is(i, "cs") && now().day() % 2 == 1) weight = 0;
        if (is(i, "dm")) weight = 2;
        if (is(i, "m")) weight++;
        return weight;
    }

    private static boolean has(int set, int i) {
        return set / (int) Math.pow(2, i) % 2 == 1;
    }

    private int weightOf(int set) {
        int sum = 0;
        for (int key = 0; key < houses(); key++) {
            boolean there = has(set, now().holders().get(key));
            if (there) sum += keyWeight(key);
            if (!there && is(key, "r") && now().day() % 3 == 0) sum++;
        }
        return sum;
    }

    private boolean atPeace(int set) {
        for (int i = 0; i < houses(); i++) {
            for (int j = 0; j < houses(); j++) {
                if (has(set, i) && has(set, j) && feud[i][j]) return false;
            }
        }
        return true;
    }

    private boolean open(int set) {
        return houses() > 0 && weightOf(set) >= need && atPeace(set);
    }

    private int wants(int i) {
        return is(i, "m") ? 0 : is(i, "s") ? heads[i] / 2 : heads[i];
    }

    private int wantsYet(int i) {
        return wants(i) - now().today().get(i);
    }

    public int mark(int i, int kind) {
        if (!within(i, 0, houses() - 1) || !within(kind, 1, 5)) return BAD;
        if (!is(i, List.of("cs", "r", "dm", "s", "m").get(kind - 1))) return find(3);
        int day = now().day();
        int many = 0;
        if (kind == 1) {
            while ((day + many) % 2 != 0) many++;
        } else if (kind == 2) {
            while ((day + many) % 3 != 0) many++;
        } else if (kind == 3) {
            for (int j = 0; j < houses(); j++) {
                if (j != i && !open(sets() - 1 - (int) Math.pow(2, j))) many++;
            }
        } else if (kind == 4) {
            many = heads[i] - wants(i);
        } else {
            for (int holder : now().holders()) many += holder == i ? 1 : 0;
        }
        return many;
    }

    // ---- 2

    private int deeds() {
        return past.size() - 1;
    }

    private static int setOf(List<Integer> order) {
        int set = 0;
        for (int i : order) set += (int) Math.pow(2, i);
        return set;
    }

    private State after(List<Integer> order) {
        int water = now().water();
        List<Integer> today = new ArrayList<>(now().today());
        List<Integer> all = new ArrayList<>(now().all());
        for (int i : order) {
            int draws = Math.min(water, wants(i) - today.get(i));
            water -= draws;
            today.set(i, today.get(i) + draws);
            all.set(i, all.get(i) + draws);
        }
        return new State(water, now().day(), now().holders(), today, all);
    }

    public int meet(int r) {
        if (!within(r, 0, 5)) return BAD;
        if (rows[r] == null) return find(1);
        if (rows[r].length > houses()) return find(5);
        List<Integer> order = new ArrayList<>();
        for (int v : rows[r]) {
            if (!within(v, 0, houses() - 1) || order.contains(v)) return find(3);
            order.add(v);
        }
        if (houses() == 0 || !open(setOf(order))) return STATE;
        if (deeds() >= 40) return FULL;
        int before = now().water();
        past.add(after(order));
        return before - now().water();
    }

    public int pledge(int key, int to) {
        if (!within(key, 0, houses() - 1) || !within(to, 0, houses() - 1)) return BAD;
        int was = now().holders().get(key);
        if (was == to) return STATE;
        if (deeds() >= 40) return FULL;
        List<Integer> holders = new ArrayList<>(now().holders());
        holders.set(key, to);
        past.add(new State(now().water(), now().day(), holders, now().today(), now().all()));
        return was;
    }

    public int day() {
        if (houses() == 0) return STATE;
        if (deeds() >= 40) return FULL;
        List<Integer> none = new ArrayList<>();
        for (int i = 0; i < houses(); i++) none.add(0);
        int water = Math.min(99, now().water() + comes);
        past.add(new State(water, now().day() + 1, now().holders(), none, now().all()));
        return water;
    }

    public int undo(int n) {
        if (!within(n, 0, deeds())) return BAD;
        int many = deeds() - n;
        past = new ArrayList<>(past.subList(0, n + 1));
        return many;
    }

    public int keep(int k) {
        if (!within(k, 0, 2)) return BAD;
        if (houses() == 0) return STATE;
        kept.set(k, new ArrayList<>(past));
        return deeds();
    }

    public int on(int k) {
        if (!within(k, 0, 2)) return BAD;
        if (kept.get(k) == null) return find(1);
        past = new ArrayList<>(kept.get(k));
        return deeds();
    }

    // ---- 3

    public int weight(int set) {
        if (!within(set, 0, sets() - 1)) return BAD;
        asked = open(set) ? 1 : 0;
        return weightOf(set);
    }

    private List<Integer> openSets() {
        List<Integer> found = new ArrayList<>();
        for (int set = 0; set < sets(); set++) {
            if (open(set)) found.add(set);
        }
        return found;
    }

    private void tell(BigInteger up, BigInteger low) {
        BigInteger d = up.gcd(low);
        upper = up.divide(d);
        lower = low.divide(d);
    }

    private void tell(long up, long low) {
        tell(BigInteger.valueOf(up), BigInteger.valueOf(low));
    }

    public int opens() {
        List<Integer> found = openSets();
        tell(found.size(), 1);
        asked = NONE;
        for (int size = houses(); size >= 0; size--) {
            for (int k = found.size() - 1; k >= 0; k--) {
                if (Integer.toBinaryString(found.get(k)).replace("0", "").length() == size) asked = found.get(k);
            }
        }
        return 1;
    }

    private int inAll(List<Integer> found) {
        int bits = 0;
        for (int i = 0; i < houses(); i++) {
            final int house = i;
            if (!found.isEmpty() && found.stream().allMatch(s -> has(s, house))) bits += (int) Math.pow(2, i);
        }
        return bits;
    }

    public int must() {
        List<Integer> found = openSets();
        if (found.isEmpty()) return STATE;
        asked = found.stream().reduce(0, (a, b) -> a | b);
        return inAll(found);
    }

    public int holds(int i) {
        if (!within(i, 0, houses() - 1)) return BAD;
        int many = 0;
        for (int set : openSets()) {
            if (has(set, i) && !open(set - (int) Math.pow(2, i))) many++;
        }
        return many;
    }

    /** All orders of a set, the first one first. */
    private static List<List<Integer>> orders(List<Integer> of) {
        List<List<Integer>> all = new ArrayList<>();
        if (of.isEmpty()) all.add(List.of());
        for (int head : of) {
            List<Integer> rest = new ArrayList<>(of);
            rest.remove(Integer.valueOf(head));
            for (List<Integer> tail : orders(rest)) {
                List<Integer> one = new ArrayList<>();
                one.add(head);
                one.addAll(tail);
                all.add(one);
            }
        }
        return all;
    }

    private List<Integer> members(int set) {
        List<Integer> list = new ArrayList<>();
        for (int i = 0; i < houses(); i++) {
            if (has(set, i)) list.add(i);
        }
        return list;
    }

    public int part(int i) {
        if (!within(i, 0, houses() - 1)) return BAD;
        List<List<Integer>> all = orders(members(sets() - 1));
        int[] weights = new int[sets()];
        for (int set = 0; set < sets(); set++) weights[set] = weightOf(set);
        long by = 0;
        for (List<Integer> order : all) {
            int came = 0;
            int decides = weights[0] >= need ? NONE : NONE - 1;
            for (int house : order) {
                came |= 1 << house;
                if (decides == NONE - 1 && weights[came] >= need) decides = house;
            }
            if (decides == i) by++;
        }
        tell(by, all.size());
        return 1;
    }

    // ---- 4

    public int drink(int r) {
        if (!within(r, 0, 5)) return BAD;
        if (houses() == 0) return STATE;
        int thirsty = 0;
        for (int i = 0; i < houses(); i++) thirsty |= wantsYet(i) > 0 ? 1 << i : 0;
        List<Integer> found = openSets();
        for (int many = 0; many <= 7; many++) {
            int[] row = new int[many];
            if (cover(found, 0, row, 0, thirsty)) {
                rows[r] = row;
                return many;
            }
        }
        return NONE;
    }

    private static boolean cover(List<Integer> found, int from, int[] row, int place, int left) {
        if (place == row.length) return left == 0;
        int rest = left;
        for (int k = from; k < found.size(); k++) rest &= ~found.get(k);
        if (rest != 0) return false;
        for (int k = from; k < found.size(); k++) {
            row[place] = found.get(k);
            if (cover(found, k + 1, row, place + 1, left & ~found.get(k))) return true;
        }
        return false;
    }

    public int best(int set, int r) {
        if (!within(set, 0, sets() - 1) || !within(r, 0, 5)) return BAD;
        if (!open(set)) return STATE;
        int most = -1;
        for (List<Integer> order : orders(members(set))) {
            State then = after(order);
            int served = 0;
            for (int i : order) {
                if (wantsYet(i) > 0 && then.today().get(i) == wants(i)) served++;
            }
            if (served > most) {
                most = served;
                rows[r] = order.stream().mapToInt(i -> i).toArray();
            }
        }
        return most;
    }

    public int ration() {
        if (houses() == 0) return STATE;
        int greatest = 0;
        for (int share = 0; share <= 99; share++) {
            int sum = 0;
            for (int i = 0; i < houses(); i++) sum += Math.min(share, wantsYet(i));
            if (sum <= now().water()) {
                greatest = share;
                asked = sum;
            }
        }
        return greatest;
    }

    // ---- 5

    private int drawnBy(int set) {
        return now().water() - after(members(set)).water();
    }

    public int frogs(int n) {
        if (!within(n, 0, 99)) return BAD;
        List<Integer> found = openSets();
        found.removeIf(set -> drawnBy(set) != n);
        tell(found.size(), 1);
        asked = inAll(found);
        return 1;
    }

    private int byPairs(int r, int low, int high, java.util.function.IntBinaryOperator weighs, boolean needIsIt) {
        if (!within(r, 0, 5)) return BAD;
        if (rows[r] == null) return find(1);
        if (rows[r].length % 2 == 1 || rows[r].length > 16) return find(5);
        for (int k = 0; k < rows[r].length; k += 2) {
            if (!within(rows[r][k], 0, sets() - 1) || !within(rows[r][k + 1], 0, 1)) return find(3);
        }
        int bits = 0;
        for (int c = low; c <= high; c++) {
            boolean fits = true;
            for (int k = 0; k < rows[r].length; k += 2) {
                int set = rows[r][k];
                int due = needIsIt ? c : need;
                boolean does = houses() > 0 && weighs.applyAsInt(set, c) >= due && atPeace(set);
                fits &= does == (rows[r][k + 1] == 1);
            }
            if (fits) bits |= 1 << c;
        }
        return bits;
    }

    public int twice(int r) {
        return byPairs(r, 0, houses() - 1, (set, c) -> members(set).size() + (has(set, c) ? 1 : 0), false);
    }

    public int quorum(int r) {
        return byPairs(r, 1, 9, (set, c) -> weightOf(set), true);
    }

    // ---- 6

    private static boolean wins(IntPredicate opened, List<Integer> left, int called, boolean calls) {
        if (left.isEmpty()) return opened.test(called);
        boolean any = false;
        boolean all = true;
        for (int i : left) {
            List<Integer> rest = new ArrayList<>(left);
            rest.remove(Integer.valueOf(i));
            boolean won = wins(opened, rest, calls ? called + (1 << i) : called, !calls);
            any |= won;
            all &= won;
        }
        return calls ? any : all;
    }

    public int call() {
        if (houses() == 0) return STATE;
        List<Integer> found = openSets();
        return wins(found::contains, members(sets() - 1), 0, true) ? 1 : 0;
    }

    public int first() {
        if (houses() == 0) return STATE;
        List<Integer> found = openSets();
        for (int i = 0; i < houses(); i++) {
            if (wins(found::contains, members(sets() - 1 - (1 << i)), 1 << i, false)) return i;
        }
        return NONE;
    }

    // ---- 7

    private int chances(int p, java.util.function.IntUnaryOperator worth) {
        if (!within(p, 0, 12)) return BAD;
        if (houses() == 0) return STATE;
        BigInteger sum = BigInteger.ZERO;
        for (int set : openSets()) {
            BigInteger ways = BigInteger.valueOf(worth.applyAsInt(set));
            for (int i = 0; i < houses(); i++) ways = ways.multiply(BigInteger.valueOf(has(set, i) ? p : 12 - p));
            sum = sum.add(ways);
        }
        tell(sum, BigInteger.valueOf(12).pow(houses()));
        return 1;
    }

    public int odds(int p) {
        return chances(p, set -> 1);
    }

    public int mid(int p) {
        return chances(p, this::drawnBy);
    }

    public int lots(int n, int seed) {
        if (!within(n, 1, 20) || !within(seed, 1, 2147483646)) return BAD;
        if (houses() == 0) return STATE;
        if (deeds() + 2 * n > 40) return FULL;
        BigInteger lot = BigInteger.valueOf(seed);
        int drawn = 0;
        for (int k = 0; k < n; k++) {
            lot = lot.multiply(BigInteger.valueOf(48271)).mod(BigInteger.valueOf(2147483647));
            int set = lot.divide(BigInteger.valueOf(8)).mod(BigInteger.valueOf(sets())).intValue();
            if (open(set)) {
                drawn += drawnBy(set);
                past.add(after(members(set)));
            }
            day();
        }
        return drawn;
    }

    // ---- 8

    public int asked() {
        return asked;
    }

    public long upper() {
        return upper.longValueExact();
    }

    public long lower() {
        return lower.longValueExact();
    }

    public int count(int what) {
        if (what == 0) return houses();
        if (what == 1) return now().day();
        if (what == 2) return deeds();
        if (what == 3) return now().water();
        if (what == 4) return need;
        if (what == 5) {
            int twice = 0;
            for (boolean[] line : feud) for (boolean b : line) twice += b ? 1 : 0;
            return twice / 2;
        }
        if (what == 6) return letters.replaceAll("[^cs]", "").length();
        if (what == 7) return letters.replaceAll("[^dm]", "").length();
        if (what == 8) return (int) Arrays.stream(rows).filter(x -> x != null).count();
        if (what == 9) return (int) Arrays.stream(texts).filter(x -> x != null).count();
        if (what == 10) return (int) kept.stream().filter(x -> x != null).count();
        return BAD;
    }

    public int finding() {
        return finding;
    }

    public int findings(int f) {
        return within(f, 1, 5) ? findings[f] : BAD;
    }

    public long digest() {
        List<Integer> values = new ArrayList<>();
        for (int what = 0; what <= 10; what++) values.add(count(what));
        for (int i = 0; i < houses(); i++) for (int what = 0; what <= 6; what++) values.add(fact(i, what));
        for (List<State> k : kept) values.add(k == null ? -1 : k.size() - 1);
        for (int[] row : rows) {
            values.add(row == null ? -1 : row.length);
            if (row != null) for (int v : row) values.add(v);
        }
        for (byte[] text : texts) {
            values.add(text == null ? -1 : text.length);
            if (text != null) for (byte v : text) values.add((int) v);
        }
        long h = 17;
        for (int v : values) h = 31 * h + v;
        return h;
    }
}
