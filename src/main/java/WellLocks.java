import java.util.Arrays;

/** A well between families with a lock of each; ../shared/DOC.md tells what every call does. */
public final class WellLocks {
    public static final int BAD = -1, FULL = -2, FINDING = -3, STATE = -4, SPENT = -6, NONE = -9;

    private static final int FINE = 0;
    private static final int MISSING = -1;

    private static final int NOTHING = 1, BEYOND = 2, UNLIKE = 3, NOUGHT = 4, SIZE = 5;

    private static final int ROWS = 6, ROW_SIZE = 40;
    private static final int TEXTS = 4, TEXT_SIZE = 80;
    private static final int KEPT_WELLS = 3;
    private static final int MOST_HOUSES = 7, MOST_SETS = 128;
    private static final int MOST_DEEDS = 40;
    private static final int MOST_WATER = 99;
    private static final int MOST_WANT = 9;
    private static final int MOST_NEED = 9;
    private static final int MOST_PAIRS = 8;
    private static final int MOST_LOT_DAYS = 20;
    private static final int OF_CHANCE = 12;
    private static final int BLANK = 32;
    private static final int BYTE_SHIFT = 1000;

    private static final int HOUSE = 0, CHILD = 1, RUSTY = 2, DOUBLE = 3, SWORN = 4, SMITH = 5;
    private static final String KIND_LETTERS = "hcrdsm";

    private static final int MEETING = 0, PLEDGE = 1, DAY = 2;

    private static final int HOUSE_FACTS = 7;
    private static final int COUNTS = 11;

    private static final long LOT_FACTOR = 48271L, LOT_MODULUS = 2147483647L;

    private final Shelf rows = new Shelf(ROWS, ROW_SIZE);
    private final Shelf texts = new Shelf(TEXTS, TEXT_SIZE);
    private final Reader reader = new Reader(texts);
    private final Well well = new Well();
    private final Survey survey = new Survey(well);
    private final Deeds[] kept = new Deeds[KEPT_WELLS];
    private final int[] findingCounts = new int[SIZE + 1];
    private int latestFinding = 0;
    private int lastAsked = 0;
    private long lastUpper = 0;
    private long lastLower = 1;

    public WellLocks() {
        for (int k = 0; k < KEPT_WELLS; k++) {
            kept[k] = new Deeds(MISSING);
        }
    }

    // ---- 1 rows, texts, wells

    public int row(int r, int n) {
        return makeOn(rows, r, n, 0);
    }

    public int lay(int r, int i, int v) {
        int refusal = refusalOfPlace(rows, r, i);
        if (refusal != FINE) {
            return refusal;
        }
        lastAsked = rows.get(r, i);
        rows.set(r, i, v);
        return 1;
    }

    public int at(int r, int i) {
        int refusal = refusalOfPlace(rows, r, i);
        if (refusal != FINE) {
            return refusal;
        }
        lastAsked = rows.get(r, i);
        return 1;
    }

    public int tear(int r) {
        int refusal = refusalOf(rows, r);
        if (refusal != FINE) {
            return refusal;
        }
        rows.drop(r);
        return 1;
    }

    public int copy(int r, int i, int to, int j, int n) {
        if (!rows.isNumber(r) || !rows.isNumber(to)) {
            return BAD;
        }
        if (n < 0) {
            return refuse(SIZE);
        }
        if (!rows.isThere(r) || !rows.isThere(to)) {
            return refuse(NOTHING);
        }
        if (!rows.hasRun(r, i, n) || !rows.hasRun(to, j, n)) {
            return refuse(BEYOND);
        }
        rows.move(r, i, to, j, n);
        return 1;
    }

    public int mean(int r) {
        int refusal = refusalOf(rows, r);
        if (refusal != FINE) {
            return refusal;
        }
        int size = rows.sizeOf(r);
        if (size <= 0) {
            return refuse(NOUGHT);
        }
        lastAsked = (int) (rows.sumOf(r) / size);
        return 1;
    }

    public int text(int t, int n) {
        return makeOn(texts, t, n, BLANK);
    }

    public int put(int t, int i, int v) {
        int refusal = refusalOfPlace(texts, t, i);
        if (refusal != FINE) {
            return refusal;
        }
        int before = texts.get(t, i);
        texts.set(t, i, (byte) v);
        return before + BYTE_SHIFT;
    }

    public int fault(int t) {
        int refusal = refusalOf(texts, t);
        return refusal != FINE ? refusal : reader.read(t);
    }

    public int well(int t) {
        int refusal = refusalOf(texts, t);
        if (refusal != FINE) {
            return refusal;
        }
        if (reader.read(t) != NONE) {
            return STATE;
        }
        well.begin(reader.handOver(well.charter));
        for (int k = 0; k < KEPT_WELLS; k++) {
            kept[k].size = MISSING;
        }
        return well.houses();
    }

    public int house(int i, int what) {
        if (!well.isHouse(i) || what < 0 || what >= HOUSE_FACTS) {
            return BAD;
        }
        lastAsked = well.factOf(i, what);
        return 1;
    }

    public int mark(int i, int kind) {
        if (!well.isHouse(i) || kind < CHILD || kind > SMITH) {
            return BAD;
        }
        if (!isOfKind(well.charter.kinds[i], kind)) {
            return refuse(UNLIKE);
        }
        return well.markOf(i, kind);
    }

    // ---- 2 deeds

    public int meet(int r) {
        int refusal = refusalOf(rows, r);
        if (refusal != FINE) {
            return refusal;
        }
        if (rows.sizeOf(r) > well.houses()) {
            return refuse(SIZE);
        }
        int set = setInRow(r);
        if (set == NONE) {
            return refuse(UNLIKE);
        }
        if (!well.isOpenTo(set)) {
            return STATE;
        }
        if (well.deeds.isFull(1)) {
            return FULL;
        }
        return well.perform(meetingInRow(r));
    }

    public int pledge(int key, int to) {
        if (!well.isHouse(key) || !well.isHouse(to)) {
            return BAD;
        }
        int before = well.holders[key];
        if (before == to) {
            return STATE;
        }
        if (well.deeds.isFull(1)) {
            return FULL;
        }
        well.perform(pledgeDeed(key, to));
        return before;
    }

    public int day() {
        if (well.houses() == 0) {
            return STATE;
        }
        if (well.deeds.isFull(1)) {
            return FULL;
        }
        well.perform(DAY);
        return well.water;
    }

    public int undo(int n) {
        int before = well.deeds.size;
        // Behind the last deed, or without any, there is nothing from n on: none is undone.
        if (n < 0 || n > before) {
            return BAD;
        }
        well.deeds.size = n;
        well.replay();
        return before - n;
    }

    public int keep(int k) {
        if (k < 0 || k >= KEPT_WELLS) {
            return BAD;
        }
        if (well.houses() == 0) {
            return STATE;
        }
        kept[k].take(well.deeds);
        return well.deeds.size;
    }

    public int on(int k) {
        if (k < 0 || k >= KEPT_WELLS) {
            return BAD;
        }
        if (kept[k].size == MISSING) {
            return refuse(NOTHING);
        }
        well.deeds.take(kept[k]);
        well.replay();
        return well.deeds.size;
    }

    // ---- 3 who opens it (aside)

    public int weight(int set) {
        if (!well.isSet(set)) {
            return BAD;
        }
        lastAsked = well.isOpenTo(set) ? 1 : 0;
        return well.weightOf(set);
    }

    public int opens() {
        survey.look();
        tell(survey.howManyOpen(), 1);
        lastAsked = survey.fewest();
        return 1;
    }

    public int must() {
        survey.look();
        if (survey.howManyOpen() == 0) {
            return STATE;
        }
        lastAsked = survey.inAny();
        return survey.inAll();
    }

    public int holds(int i) {
        if (!well.isHouse(i)) {
            return BAD;
        }
        survey.look();
        return survey.decidedBy(i);
    }

    public int part(int i) {
        if (!well.isHouse(i)) {
            return BAD;
        }
        tell(well.ordersDecidedBy(i), factorial(well.houses()));
        return 1;
    }

    // ---- 4 drinking (aside)

    public int drink(int r) {
        if (!rows.isNumber(r)) {
            return BAD;
        }
        if (well.houses() == 0) {
            return STATE;
        }
        survey.look();
        int thirsty = well.thirsty();
        int meetings = survey.fewestToCover(thirsty);
        if (meetings != NONE) {
            rows.make(r, meetings, 0);
            survey.layCover(thirsty, rows, r);
        }
        return meetings;
    }

    public int best(int set, int r) {
        if (!well.isSet(set) || !rows.isNumber(r)) {
            return BAD;
        }
        if (!well.isOpenTo(set)) {
            return STATE;
        }
        rows.make(r, Integer.bitCount(set), 0);
        well.layBestOrder(set, rows, r);
        return well.mostServed(set, well.water);
    }

    public int ration() {
        if (well.houses() == 0) {
            return STATE;
        }
        int share = MOST_WATER;
        while (share > 0 && well.drawnByShares(share) > well.water) {
            share--;
        }
        lastAsked = well.drawnByShares(share);
        return share;
    }

    // ---- 5 frogs, keys

    public int frogs(int n) {
        if (n < 0 || n > MOST_WATER) {
            return BAD;
        }
        survey.look();
        survey.keepThoseWhoDraw(n);
        int many = survey.howManyOpen();
        tell(many, 1);
        lastAsked = many == 0 ? 0 : survey.inAll();
        return 1;
    }

    public int twice(int r) {
        int refusal = refusalOfPairs(r);
        if (refusal != FINE) {
            return refusal;
        }
        int can = 0;
        for (int i = 0; i < well.houses(); i++) {
            if (fitsDouble(r, i)) {
                can |= 1 << i;
            }
        }
        return can;
    }

    public int quorum(int r) {
        int refusal = refusalOfPairs(r);
        if (refusal != FINE) {
            return refusal;
        }
        int can = 0;
        for (int need = 1; need <= MOST_NEED; need++) {
            if (fitsNeed(r, need)) {
                can |= 1 << need;
            }
        }
        return can;
    }

    // ---- 6 by turns

    public int call() {
        if (well.houses() == 0) {
            return STATE;
        }
        survey.look();
        return survey.winningCall() == NONE ? 0 : 1;
    }

    public int first() {
        if (well.houses() == 0) {
            return STATE;
        }
        survey.look();
        return survey.winningCall();
    }

    // ---- 7 chances, lots

    public int odds(int p) {
        int refusal = refusalOfChance(p);
        if (refusal != FINE) {
            return refusal;
        }
        survey.look();
        tell(survey.waysToOpen(p), power(OF_CHANCE, well.houses()));
        return 1;
    }

    public int mid(int p) {
        int refusal = refusalOfChance(p);
        if (refusal != FINE) {
            return refusal;
        }
        survey.look();
        tell(survey.bucketsInAllWays(p), power(OF_CHANCE, well.houses()));
        return 1;
    }

    public int lots(int n, int seed) {
        if (n < 1 || n > MOST_LOT_DAYS || seed < 1 || seed >= LOT_MODULUS) {
            return BAD;
        }
        if (well.houses() == 0) {
            return STATE;
        }
        if (well.deeds.isFull(2 * n)) {
            return FULL;
        }
        long lot = seed;
        int drawn = 0;
        for (int d = 0; d < n; d++) {
            lot = lot * LOT_FACTOR % LOT_MODULUS;
            // There are 2, 4, .. 128 sets: modulo these are the last bits, and nothing has to divide.
            int set = (int) (lot / 8) & (well.sets() - 1);
            if (well.isOpenTo(set)) {
                drawn += well.perform(meetingRising(set));
            }
            well.perform(DAY);
        }
        return drawn;
    }

    // ---- 8 what is told

    public int asked() {
        return lastAsked;
    }

    public long upper() {
        return lastUpper;
    }

    public long lower() {
        return lastLower;
    }

    public int count(int what) {
        return what < 0 || what >= COUNTS ? BAD : countOf(what);
    }

    public int finding() {
        return latestFinding;
    }

    public int findings(int f) {
        return f < NOTHING || f > SIZE ? BAD : findingCounts[f];
    }

    public long digest() {
        long h = 17;
        for (int what = 0; what < COUNTS; what++) {
            h = 31 * h + countOf(what);
        }
        for (int i = 0; i < well.houses(); i++) {
            for (int what = 0; what < HOUSE_FACTS; what++) {
                h = 31 * h + well.factOf(i, what);
            }
        }
        for (int k = 0; k < KEPT_WELLS; k++) {
            h = 31 * h + kept[k].size;
        }
        return texts.fold(rows.fold(h));
    }

    // ---- what the calls share

    private int refuse(int which) {
        latestFinding = which;
        findingCounts[which]++;
        return FINDING;
    }

    private int refusalOf(Shelf shelf, int r) {
        if (!shelf.isNumber(r)) {
            return BAD;
        }
        return shelf.isThere(r) ? FINE : refuse(NOTHING);
    }

    private int refusalOfPlace(Shelf shelf, int r, int i) {
        int refusal = refusalOf(shelf, r);
        if (refusal != FINE) {
            return refusal;
        }
        return shelf.isPlace(r, i) ? FINE : refuse(BEYOND);
    }

    private int refusalOfPairs(int r) {
        int refusal = refusalOf(rows, r);
        if (refusal != FINE) {
            return refusal;
        }
        int size = rows.sizeOf(r);
        if (size % 2 != 0 || size > 2 * MOST_PAIRS) {
            return refuse(SIZE);
        }
        for (int i = 0; i + 1 < size; i += 2) {
            int said = rows.get(r, i + 1);
            if (!well.isSet(rows.get(r, i)) || said < 0 || said > 1) {
                return refuse(UNLIKE);
            }
        }
        return FINE;
    }

    private int refusalOfChance(int p) {
        if (p < 0 || p > OF_CHANCE) {
            return BAD;
        }
        return well.houses() == 0 ? STATE : FINE;
    }

    private int makeOn(Shelf shelf, int r, int n, int filling) {
        if (!shelf.isNumber(r) || n > shelf.most) {
            return BAD;
        }
        if (n < 0) {
            return refuse(SIZE);
        }
        shelf.make(r, n, filling);
        return n;
    }

    private void tell(long up, long low) {
        long divisor = greatestDivisor(up, low);
        lastUpper = divisor > 0 ? up / divisor : up;
        lastLower = divisor > 0 ? low / divisor : low;
    }

    private int countOf(int what) {
        switch (what) {
            case 0: return well.houses();
            case 1: return well.dayNumber;
            case 2: return well.deeds.size;
            case 3: return well.water;
            case 4: return well.charter.need;
            case 5: return well.charter.feudCount;
            case 6: return well.charter.howManyOf(CHILD);
            case 7: return well.charter.howManyOf(DOUBLE);
            case 8: return rows.howManyThere();
            case 9: return texts.howManyThere();
            default: return keptWells();
        }
    }

    private int keptWells() {
        int many = 0;
        for (int k = 0; k < KEPT_WELLS; k++) {
            if (kept[k].size != MISSING) {
                many++;
            }
        }
        return many;
    }

    /** The set of the houses in a row; NONE if one is no house or is there twice. */
    private int setInRow(int r) {
        int set = 0;
        for (int i = 0; i < rows.sizeOf(r); i++) {
            int house = rows.get(r, i);
            if (!well.isHouse(house) || isIn(house, set)) {
                return NONE;
            }
            set |= 1 << house;
        }
        return set;
    }

    private int meetingInRow(int r) {
        int deed = MEETING;
        for (int i = 0; i < rows.sizeOf(r); i++) {
            deed = joinMeeting(deed, rows.get(r, i));
        }
        return deed;
    }

    private boolean fitsDouble(int r, int owner) {
        for (int i = 0; i + 1 < rows.sizeOf(r); i += 2) {
            int set = rows.get(r, i);
            int weight = Integer.bitCount(set) + (isIn(owner, set) ? 1 : 0);
            if (well.wouldOpen(set, weight, well.charter.need) != (rows.get(r, i + 1) == 1)) {
                return false;
            }
        }
        return true;
    }

    private boolean fitsNeed(int r, int need) {
        for (int i = 0; i + 1 < rows.sizeOf(r); i += 2) {
            int set = rows.get(r, i);
            if (well.wouldOpen(set, well.weightOf(set), need) != (rows.get(r, i + 1) == 1)) {
                return false;
            }
        }
        return true;
    }

    // ---- sets, kinds, deeds, numbers

    private static boolean isIn(int house, int set) {
        return ((set >> house) & 1) == 1;
    }

    private static boolean isOfKind(int kind, int wanted) {
        return kind == wanted || wanted == HOUSE
            || (kind == SWORN && wanted == CHILD)
            || (kind == SMITH && wanted == DOUBLE);
    }

    // A deed is one number: two bits for what it is, then a pledge's key and receiver,
    // or a meeting's size and its houses, three bits each.

    private static int pledgeDeed(int key, int to) {
        return PLEDGE | (key << 2) | (to << 5);
    }

    private static int joinMeeting(int deed, int house) {
        int size = (deed >> 2) & 7;
        return (deed + (1 << 2)) | (house << (5 + 3 * size));
    }

    private static int meetingRising(int set) {
        int deed = MEETING;
        for (int i = 0; i < MOST_HOUSES; i++) {
            if (isIn(i, set)) {
                deed = joinMeeting(deed, i);
            }
        }
        return deed;
    }

    private static long factorial(int n) {
        long product = 1;
        for (int i = 2; i <= n; i++) {
            product *= i;
        }
        return product;
    }

    private static long power(int base, int n) {
        long product = 1;
        for (int i = 0; i < n; i++) {
            product *= base;
        }
        return product;
    }

    private static long greatestDivisor(long one, long other) {
        long a = one;
        long b = other;
        // Longs need fewer than a hundred steps.
        for (int step = 0; step < 100 && b != 0; step++) {
            long rest = a % b;
            a = b;
            b = rest;
        }
        return a;
    }

    /** Rows of one greatest size, made once and used again, each of which may be missing. */
    private static final class Shelf {
        private final int most;
        private final int[][] cells;
        private final int[] sizes;

        Shelf(int many, int most) {
            this.most = most;
            cells = new int[many][most];
            sizes = new int[many];
            Arrays.fill(sizes, MISSING);
        }

        boolean isNumber(int r) {
            return r >= 0 && r < sizes.length;
        }

        boolean isThere(int r) {
            return isNumber(r) && sizes[r] != MISSING;
        }

        boolean isPlace(int r, int i) {
            return isThere(r) && i >= 0 && i < sizes[r];
        }

        boolean hasRun(int r, int from, int n) {
            return isThere(r) && n >= 0 && from >= 0 && from <= sizes[r] - n;
        }

        int sizeOf(int r) {
            return isNumber(r) ? sizes[r] : MISSING;
        }

        int get(int r, int i) {
            return isPlace(r, i) ? cells[r][i] : 0;
        }

        void set(int r, int i, int v) {
            if (isPlace(r, i)) {
                cells[r][i] = v;
            }
        }

        void make(int r, int n, int filling) {
            if (isNumber(r) && n >= 0 && n <= most) {
                sizes[r] = n;
                Arrays.fill(cells[r], filling);
            }
        }

        void drop(int r) {
            if (isNumber(r)) {
                sizes[r] = MISSING;
            }
        }

        void move(int r, int i, int to, int j, int n) {
            if (hasRun(r, i, n) && hasRun(to, j, n)) {
                System.arraycopy(cells[r], i, cells[to], j, n);
            }
        }

        /** As many places as there are and the other one takes: how many. */
        int copyInto(int r, int[] other) {
            int n = Math.max(0, Math.min(sizeOf(r), other.length));
            if (hasRun(r, 0, n)) {
                System.arraycopy(cells[r], 0, other, 0, n);
            }
            return n;
        }

        long sumOf(int r) {
            long sum = 0;
            for (int i = 0; i < sizeOf(r); i++) {
                sum += get(r, i);
            }
            return sum;
        }

        int howManyThere() {
            int many = 0;
            for (int r = 0; r < sizes.length; r++) {
                if (isThere(r)) {
                    many++;
                }
            }
            return many;
        }

        long fold(long start) {
            long h = start;
            for (int r = 0; r < sizes.length; r++) {
                h = 31 * h + sizes[r];
                for (int i = 0; i < sizes[r]; i++) {
                    h = 31 * h + get(r, i);
                }
            }
            return h;
        }
    }

    /** What a text tells of a well: all that no deed changes. */
    private static final class Charter {
        private int need;
        private int firstWater;
        private int comesEachDay;
        private int houses;
        private int feudCount;
        private final int[] kinds = new int[MOST_HOUSES];
        private final int[] heads = new int[MOST_HOUSES];
        private final int[] feuds = new int[MOST_HOUSES];

        void clear() {
            need = 0;
            firstWater = 0;
            comesEachDay = 0;
            houses = 0;
            feudCount = 0;
            Arrays.fill(feuds, 0);
        }

        void addHouse(int kind, int headCount) {
            if (houses < MOST_HOUSES) {
                kinds[houses] = kind;
                heads[houses] = headCount;
                houses++;
            }
        }

        void addFeud(int one, int other) {
            feuds[one] |= 1 << other;
            feuds[other] |= 1 << one;
            feudCount++;
        }

        boolean isPeaceful(int set) {
            for (int i = 0; i < houses; i++) {
                if (isIn(i, set) && (feuds[i] & set) != 0) {
                    return false;
                }
            }
            return true;
        }

        int wants(int i) {
            if (kinds[i] == SMITH) {
                return 0;
            }
            return kinds[i] == SWORN ? heads[i] / 2 : heads[i];
        }

        int howManyOf(int kind) {
            int many = 0;
            for (int i = 0; i < houses; i++) {
                if (isOfKind(kinds[i], kind)) {
                    many++;
                }
            }
            return many;
        }
    }

    /** Reads a text into a charter and stops at the first place at which it can't go on. */
    private static final class Reader {
        // No byte is this number.
        private static final int END = 256;

        private final Shelf texts;
        // A copy of the text, so that no sign is reached through many calls.
        private final int[] signs = new int[TEXT_SIZE];
        // Never the well's own one, so that a fault leaves the well as it is.
        private Charter charter = new Charter();
        private int size;
        private int place;

        Reader(Shelf texts) {
            this.texts = texts;
        }

        /** What was read last, for another charter to read into from now on. */
        Charter handOver(Charter another) {
            Charter read = charter;
            charter = another;
            return read;
        }

        /** The fault's place, or NONE; the charter is whole only without a fault. */
        int read(int t) {
            size = texts.copyInto(t, signs);
            place = 0;
            charter.clear();
            skipBlanks();
            if (!readPeace()) {
                return place;
            }
            // Every item takes a sign at least, so there are fewer of them than signs.
            for (int item = 0; item <= TEXT_SIZE; item++) {
                skipBlanks();
                if (sign() == END) {
                    return charter.houses == 0 ? place : NONE;
                }
                if (!readItem()) {
                    return place;
                }
            }
            return place;
        }

        private int sign() {
            return place >= 0 && place < size && place < signs.length ? signs[place] : END;
        }

        private void skipBlanks() {
            while (place < size && sign() == BLANK) {
                place++;
            }
        }

        /** The figure that stands here, if it is one from the least to the most; else MISSING. */
        private int figure(int least, int most) {
            int value = sign() - '0';
            return value >= least && value <= most ? value : MISSING;
        }

        /** Takes a figure; MISSING, and the place stays, if there is none such. */
        private int takeFigure(int least, int most) {
            int value = figure(least, most);
            if (value != MISSING) {
                place++;
            }
            return value;
        }

        private boolean readPeace() {
            if (sign() != 'q') {
                return false;
            }
            place++;
            charter.need = takeFigure(1, MOST_NEED);
            if (charter.need == MISSING) {
                return false;
            }
            int tens = takeFigure(0, 9);
            if (tens == MISSING) {
                return false;
            }
            int ones = takeFigure(0, 9);
            if (ones == MISSING) {
                return false;
            }
            charter.firstWater = 10 * tens + ones;
            charter.comesEachDay = takeFigure(0, 9);
            return charter.comesEachDay != MISSING;
        }

        private boolean readItem() {
            return sign() == 'x' ? readFeud() : readHouse();
        }

        private boolean readHouse() {
            int kind = kindOf(sign());
            if (kind == MISSING || charter.houses >= MOST_HOUSES || charter.feudCount > 0) {
                return false;
            }
            place++;
            int heads = takeFigure(0, 9);
            if (heads == MISSING) {
                return false;
            }
            charter.addHouse(kind, heads);
            return true;
        }

        private boolean readFeud() {
            if (charter.houses == 0) {
                return false;
            }
            place++;
            int one = takeFigure(0, charter.houses - 1);
            if (one == MISSING) {
                return false;
            }
            int other = figure(one + 1, charter.houses - 1);
            if (other == MISSING || isIn(other, charter.feuds[one])) {
                return false;
            }
            place++;
            charter.addFeud(one, other);
            return true;
        }

        private static int kindOf(int letter) {
            for (int kind = HOUSE; kind <= SMITH; kind++) {
                if (KIND_LETTERS.charAt(kind) == letter) {
                    return kind;
                }
            }
            return MISSING;
        }
    }

    /** What was done to a well, in its order. */
    private static final class Deeds {
        private final int[] done = new int[MOST_DEEDS];
        private int size;

        Deeds(int size) {
            this.size = size;
        }

        boolean isFull(int more) {
            return size + more > MOST_DEEDS;
        }

        void add(int deed) {
            if (size >= 0 && size < MOST_DEEDS) {
                done[size] = deed;
                size++;
            }
        }

        void take(Deeds other) {
            System.arraycopy(other.done, 0, done, 0, MOST_DEEDS);
            size = other.size;
        }
    }

    /** A well as it is now: its charter, and what the deeds have made of it. */
    private static final class Well {
        private Charter charter = new Charter();
        private final Deeds deeds = new Deeds(0);
        private final int[] holders = new int[MOST_HOUSES];
        private final int[] drawnToday = new int[MOST_HOUSES];
        private final int[] drawnInAll = new int[MOST_HOUSES];
        private int water;
        private int dayNumber;

        void begin(Charter anew) {
            charter = anew;
            deeds.size = 0;
            replay();
        }

        /** The well by its deeds alone, so that to undo is to leave the last of them away. */
        void replay() {
            water = charter.firstWater;
            dayNumber = 0;
            for (int i = 0; i < MOST_HOUSES; i++) {
                holders[i] = i;
                drawnToday[i] = 0;
                drawnInAll[i] = 0;
            }
            for (int n = 0; n < deeds.size && n < MOST_DEEDS; n++) {
                apply(deeds.done[n]);
            }
        }

        int perform(int deed) {
            deeds.add(deed);
            return apply(deed);
        }

        /** Buckets drawn by a deed. */
        private int apply(int deed) {
            switch (deed & 3) {
                case MEETING:
                    return drawInTurn(deed);
                case PLEDGE:
                    giveKey((deed >> 2) & 7, (deed >> 5) & 7);
                    return 0;
                default:
                    passDay();
                    return 0;
            }
        }

        private int drawInTurn(int deed) {
            int size = (deed >> 2) & 7;
            int before = water;
            for (int turn = 0; turn < size; turn++) {
                int house = (deed >> (5 + 3 * turn)) & 7;
                if (isHouse(house)) {
                    int buckets = Math.min(wantsYet(house), water);
                    drawnToday[house] += buckets;
                    drawnInAll[house] += buckets;
                    water -= buckets;
                }
            }
            return before - water;
        }

        private void giveKey(int key, int to) {
            if (isHouse(key) && isHouse(to)) {
                holders[key] = to;
            }
        }

        private void passDay() {
            dayNumber++;
            water = Math.min(water + charter.comesEachDay, MOST_WATER);
            Arrays.fill(drawnToday, 0);
        }

        int houses() {
            return charter.houses;
        }

        int sets() {
            return 1 << charter.houses;
        }

        boolean isHouse(int i) {
            return i >= 0 && i < charter.houses;
        }

        boolean isSet(int set) {
            return set >= 0 && set < sets();
        }

        int keyWeight(int key) {
            int kind = charter.kinds[key];
            if (isOfKind(kind, CHILD)) {
                return 1 - dayNumber % 2;
            }
            if (isOfKind(kind, DOUBLE)) {
                return kind == SMITH ? 3 : 2;
            }
            return 1;
        }

        int weightOf(int set) {
            int rustyLock = dayNumber % 3 == 0 ? 1 : 0;
            int sum = 0;
            for (int key = 0; key < charter.houses; key++) {
                if (isIn(holders[key], set)) {
                    sum += keyWeight(key);
                } else if (charter.kinds[key] == RUSTY) {
                    sum += rustyLock;
                }
            }
            return sum;
        }

        boolean wouldOpen(int set, int weight, int need) {
            return charter.houses > 0 && weight >= need && charter.isPeaceful(set);
        }

        boolean isOpenTo(int set) {
            return wouldOpen(set, weightOf(set), charter.need);
        }

        int factOf(int i, int what) {
            switch (what) {
                case 0: return charter.kinds[i];
                case 1: return charter.heads[i];
                case 2: return drawnToday[i];
                case 3: return drawnInAll[i];
                case 4: return holders[i];
                case 5: return keyWeight(i);
                default: return charter.feuds[i];
            }
        }

        int markOf(int i, int kind) {
            switch (kind) {
                case CHILD: return dayNumber % 2;
                case RUSTY: return (3 - dayNumber % 3) % 3;
                case DOUBLE: return othersNeededByAll(i);
                case SWORN: return charter.heads[i] - charter.wants(i);
                default: return keysHeldBy(i);
            }
        }

        private int othersNeededByAll(int i) {
            int all = sets() - 1;
            int many = 0;
            for (int other = 0; other < charter.houses; other++) {
                if (other != i && !isOpenTo(all & ~(1 << other))) {
                    many++;
                }
            }
            return many;
        }

        private int keysHeldBy(int i) {
            int many = 0;
            for (int key = 0; key < charter.houses; key++) {
                if (holders[key] == i) {
                    many++;
                }
            }
            return many;
        }

        /** In how many of all orders the weight is first enough by a house. */
        long ordersDecidedBy(int i) {
            long orders = 0;
            for (int ahead = 0; ahead < sets(); ahead++) {
                if (!isIn(i, ahead) && weightOf(ahead) < charter.need
                        && weightOf(ahead | (1 << i)) >= charter.need) {
                    int many = Integer.bitCount(ahead);
                    orders += factorial(many) * factorial(charter.houses - 1 - many);
                }
            }
            return orders;
        }

        int wantsYet(int i) {
            return charter.wants(i) - drawnToday[i];
        }

        int thirsty() {
            int set = 0;
            for (int i = 0; i < charter.houses; i++) {
                if (wantsYet(i) > 0) {
                    set |= 1 << i;
                }
            }
            return set;
        }

        int drawnBy(int set) {
            int sum = 0;
            for (int i = 0; i < charter.houses; i++) {
                if (isIn(i, set)) {
                    sum += wantsYet(i);
                }
            }
            return Math.min(sum, water);
        }

        int drawnByShares(int share) {
            int sum = 0;
            for (int i = 0; i < charter.houses; i++) {
                sum += Math.min(wantsYet(i), share);
            }
            return sum;
        }

        /** Those who want least go first: no other order serves more of them. */
        int mostServed(int set, int buckets) {
            int left = buckets;
            int served = 0;
            for (int want = 1; want <= MOST_WANT; want++) {
                for (int i = 0; i < charter.houses; i++) {
                    if (isIn(i, set) && wantsYet(i) == want && want <= left) {
                        left -= want;
                        served++;
                    }
                }
            }
            return served;
        }

        /** At each place the least house behind which the rest can still do as well as any. */
        void layBestOrder(int set, Shelf rows, int r) {
            int waiting = set;
            int left = water;
            for (int turn = 0; turn < rows.sizeOf(r); turn++) {
                int next = nextBest(waiting, left);
                if (next != NONE) {
                    rows.set(r, turn, next);
                    waiting &= ~(1 << next);
                    left -= Math.min(wantsYet(next), left);
                }
            }
        }

        private int nextBest(int waiting, int left) {
            int most = mostServed(waiting, left);
            for (int i = 0; i < charter.houses; i++) {
                if (isIn(i, waiting)) {
                    int want = wantsYet(i);
                    int served = want > 0 && want <= left ? 1 : 0;
                    int rest = mostServed(waiting & ~(1 << i), left - Math.min(want, left));
                    if (served + rest == most) {
                        return i;
                    }
                }
            }
            return NONE;
        }
    }

    /** All sets of a well's houses at once: which of them open it now. */
    private static final class Survey {
        private final boolean[] open = new boolean[MOST_SETS];
        private final int[] meetingsFor = new int[MOST_SETS];
        private final Well well;
        private int sets;

        Survey(Well well) {
            this.well = well;
        }

        void look() {
            sets = Math.min(well.sets(), MOST_SETS);
            for (int set = 0; set < sets; set++) {
                open[set] = well.isOpenTo(set);
            }
        }

        void keepThoseWhoDraw(int buckets) {
            for (int set = 0; set < sets; set++) {
                open[set] = open[set] && well.drawnBy(set) == buckets;
            }
        }

        int howManyOpen() {
            int many = 0;
            for (int set = 0; set < sets; set++) {
                if (open[set]) {
                    many++;
                }
            }
            return many;
        }

        int fewest() {
            int found = NONE;
            for (int set = 0; set < sets; set++) {
                if (open[set] && (found == NONE || Integer.bitCount(set) < Integer.bitCount(found))) {
                    found = set;
                }
            }
            return found;
        }

        int inAll() {
            int common = sets - 1;
            for (int set = 0; set < sets; set++) {
                if (open[set]) {
                    common &= set;
                }
            }
            return common;
        }

        int inAny() {
            int any = 0;
            for (int set = 0; set < sets; set++) {
                if (open[set]) {
                    any |= set;
                }
            }
            return any;
        }

        int decidedBy(int i) {
            int many = 0;
            for (int set = 0; set < sets; set++) {
                if (isIn(i, set) && open[set] && !open[set & ~(1 << i)]) {
                    many++;
                }
            }
            return many;
        }

        /** How few sets that open it have each of these houses in one of them; NONE if no sets do. */
        int fewestToCover(int houses) {
            meetingsFor[0] = 0;
            for (int left = 1; left < sets; left++) {
                meetingsFor[left] = fewestToCoverByLesser(left);
            }
            return houses >= 0 && houses < sets ? meetingsFor[houses] : NONE;
        }

        private int fewestToCoverByLesser(int left) {
            int fewest = NONE;
            int one = left & -left;
            for (int set = 0; set < sets; set++) {
                if (open[set] && (set & one) != 0) {
                    int others = meetingsFor[left & ~set];
                    if (others != NONE && (fewest == NONE || others + 1 < fewest)) {
                        fewest = others + 1;
                    }
                }
            }
            return fewest;
        }

        /** The least set of any shortest row comes first, so that the row rises by itself. */
        void layCover(int houses, Shelf rows, int r) {
            int left = houses;
            for (int place = 0; place < rows.sizeOf(r); place++) {
                int set = leastThatHelps(left);
                if (set != NONE) {
                    rows.set(r, place, set);
                    left &= ~set;
                }
            }
        }

        private int leastThatHelps(int left) {
            for (int set = 0; set < sets; set++) {
                if (open[set] && meetingsFor[left & ~set] == meetingsFor[left] - 1) {
                    return set;
                }
            }
            return NONE;
        }

        /** The least house that the caller can begin with and have the well opened. */
        int winningCall() {
            for (int i = 0; i < well.houses(); i++) {
                if (callerWins(1 << i, (sets - 1) & ~(1 << i), false)) {
                    return i;
                }
            }
            return NONE;
        }

        // Each level takes one house out of those left, of whom there are seven at most.
        private boolean callerWins(int called, int left, boolean callersTurn) {
            if (left == 0) {
                return open[called];
            }
            for (int i = 0; i < well.houses(); i++) {
                if (isIn(i, left)) {
                    int then = callersTurn ? called | (1 << i) : called;
                    if (callerWins(then, left & ~(1 << i), !callersTurn) == callersTurn) {
                        return callersTurn;
                    }
                }
            }
            return !callersTurn;
        }

        /** Of 12 to the power of all houses, how many ways for just this set to come. */
        private long waysToCome(int set, int p) {
            int come = Integer.bitCount(set);
            return power(p, come) * power(OF_CHANCE - p, well.houses() - come);
        }

        long waysToOpen(int p) {
            long ways = 0;
            for (int set = 0; set < sets; set++) {
                if (open[set]) {
                    ways += waysToCome(set, p);
                }
            }
            return ways;
        }

        long bucketsInAllWays(int p) {
            long buckets = 0;
            for (int set = 0; set < sets; set++) {
                if (open[set]) {
                    buckets += waysToCome(set, p) * well.drawnBy(set);
                }
            }
            return buckets;
        }
    }
}
