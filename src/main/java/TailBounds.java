import java.util.Arrays;

/** Counts with exact odds, their tails as fractions, and bounds that never lie below them. */
public final class TailBounds {
    public static final int BAD = -1, NOTHING = -2, FULL = -3, WIDE = -4, NONE = -5;

    private static final int MOST_PLACES = 16;
    private static final int MOST_SOURCES = 16;
    private static final int MOST_WEIGHTS = 8;
    private static final int HEAVIEST = 1000;
    private static final int MOST_TOSSES = 40;
    private static final int MOST_SIDES = 60;
    private static final int MOST_THINGS = 60;
    private static final int MOST_SUMMED = 12;
    private static final int HIGHEST = 120;
    private static final int MOST_CASES = 20000;
    private static final int MOST_TENS = 18;
    private static final int MILLION = 1000000;
    private static final int LONGEST_LINE = 60;

    private static final int COINS = 0, DRAWN = 1, SUMS = 2, BOTH = 3, HELD = 4;

    private static final int TOTAL_BITS = 256;
    private static final int TOTAL_PARTS = 8;
    private static final int FRACTION_BITS = 1024;
    private static final int FRACTION_PARTS = 32;
    // A MEAN is 120 at most, so its ABOVE takes 7 bits more than a TOTAL.
    private static final int MEAN_PARTS = 9;
    // The widest in between is q + r of two full PLACES: 2049 bits, and a part more while it is divided.
    private static final int ROOM = 72;

    private static final long LOW = 0xFFFFFFFFL;
    private static final long SIGN = 1L << 63;
    // A half of a long holds the factors of a leap, so that a factor times a part stays within a long.
    private static final long HALF = 0x7FFFFFFFL;
    private static final int WINDOW = 62;
    private static final int LONG_BITS = 63;
    // Far above what Euclid's steps on numbers of this room can need.
    private static final int STEP_LIMIT = 1000000;

    private final int[] weights = new int[MOST_WEIGHTS];
    private final Source[] sources = new Source[MOST_SOURCES];
    private final Fraction[] places = new Fraction[MOST_PLACES];
    private final int[] odds = new int[2];
    private final Fraction outcome = new Fraction(ROOM);
    private final Num spare = new Num(ROOM);
    private final Divider divider = new Divider();
    private final Measurer measurer = new Measurer();
    private final Tosser tosser = new Tosser();
    private int weightCount = 0;
    private int sourceCount = 0;
    private int latestBase = 0;
    private int coinA = 1;
    private int coinB = 2;
    private int lineC = 0;
    private int lineD = 1;
    private int lineE = 1;

    public TailBounds() {
        for (int p = 0; p < places.length; p++) {
            places[p] = new Fraction(FRACTION_PARTS);
        }
    }

    // ---- sources

    public int weight(int w) {
        if (outside(w, 0, HEAVIEST)) {
            return BAD;
        }
        if (weightCount < 0 || weightCount >= weights.length) {
            return FULL;
        }
        weights[weightCount] = w;
        weightCount++;
        return weightCount;
    }

    public int wipe() {
        int lay = weightCount;
        weightCount = 0;
        return lay;
    }

    public int coins(int n, int a, int b) {
        if (outside(n, 0, MOST_TOSSES) || notOdds(a, b)) {
            return BAD;
        }
        if (isFull()) {
            return FULL;
        }
        odds[0] = b - a;
        odds[1] = a;
        return keep(COINS, makeRounds(n, odds, 2));
    }

    public int drawn(int all, int good, int n) {
        if (outside(all, 1, MOST_THINGS) || outside(good, 0, all) || outside(n, 0, all)) {
            return BAD;
        }
        if (isFull()) {
            return FULL;
        }
        outcome.above.put(ways(all, n));
        Row row = new Row(n, outcome.above.size);
        for (int k = 0; k <= n; k++) {
            row.write(k, ways(good, k) * ways(all - good, n - k));
        }
        return keep(DRAWN, row);
    }

    public int sums(int n) {
        if (outside(n, 0, MOST_SUMMED) || together(weights, weightCount) == 0) {
            return BAD;
        }
        return isFull() ? FULL : keep(SUMS, makeRounds(n, weights, weightCount));
    }

    public int both(int x, int y) {
        Source one = sourceAt(x);
        Source other = sourceAt(y);
        if (one == null || other == null || one.row.top + other.row.top > HIGHEST) {
            return BAD;
        }
        if (isFull()) {
            return FULL;
        }
        spare.product(one.total, other.total);
        if (spare.bits() > TOTAL_BITS) {
            return WIDE;
        }
        Row row = new Row(one.row.top + other.row.top, spare.size);
        row.addAllPairs(one.row, other.row);
        return keep(BOTH, row);
    }

    public int held(int x, int lo, int hi) {
        Source one = sourceAt(x);
        if (one == null || outside(hi, 0, one.row.top) || outside(lo, 0, hi)) {
            return BAD;
        }
        if (isFull()) {
            return FULL;
        }
        Row row = new Row(one.row.top, one.row.wide);
        for (int v = 0; v <= one.row.top; v++) {
            row.addFrom(one.row, v, Math.max(lo, Math.min(v, hi)));
        }
        return keep(HELD, row);
    }

    public int source(int s, int what) {
        Source one = sourceAt(s);
        if (one == null) {
            return BAD;
        }
        switch (what) {
            case 0:
                return one.kind;
            case 1:
                return one.row.top;
            case 2:
                return one.total.bits();
            case 3:
                return one.row.zeros();
            default:
                return BAD;
        }
    }

    // Each side of a round is a case of its own, so the COUNT of a value is how many rows come to it.
    public int counted(int s, int k) {
        Source one = sourceAt(s);
        if (one == null || outside(k, 0, HIGHEST)) {
            return BAD;
        }
        if (one.kind != COINS && one.kind != SUMS) {
            return NONE;
        }
        if (one.total.size > 1 || one.total.word(0) > MOST_CASES) {
            return NONE;
        }
        long cases = 0;
        for (int v = k; v <= one.row.top; v++) {
            cases += one.row.word(v, 0);
        }
        return (int) cases;
    }

    // ---- fractions

    public int set(int p, int above, int below) {
        Fraction place = placeAt(p);
        if (place == null || above < 0 || below <= 0) {
            return BAD;
        }
        outcome.put(above, below);
        return settle(place);
    }

    public int mean(int p, int s) {
        Fraction place = placeAt(p);
        Source one = sourceAt(s);
        if (place == null || one == null) {
            return BAD;
        }
        outcome.copy(one.mean);
        return store(place);
    }

    public int moment(int p, int s, int n) {
        Fraction place = placeAt(p);
        Source one = sourceAt(s);
        if (place == null || one == null || (n != 2 && n != 4)) {
            return BAD;
        }
        measurer.findMoment(one, n, outcome);
        return settle(place);
    }

    public int tail(int p, int s, int k, int side) {
        Fraction place = placeAt(p);
        Source one = sourceAt(s);
        if (place == null || one == null || outside(k, 0, HIGHEST) || outside(side, 0, 2)) {
            return BAD;
        }
        measurer.findTail(one, k, side, outcome);
        return settle(place);
    }

    public int bound(int p, int s, int k, int kind) {
        Fraction place = placeAt(p);
        Source one = sourceAt(s);
        if (place == null || one == null || outside(k, 0, HIGHEST) || outside(kind, 0, 4)) {
            return BAD;
        }
        int found = 0;
        if (!measurer.isAboveMean(one, k)) {
            outcome.put(1, 1);
        } else if (kind == 0) {
            measurer.boundByMean(one, k, outcome);
        } else if (kind == 4) {
            found = measurer.boundByPowers(one, k, outcome);
        } else {
            measurer.boundByMoment(one, k, kind, outcome);
        }
        outcome.capAtOne();
        int done = settle(place);
        if (done > 0 && kind == 4) {
            latestBase = found;
        }
        return done;
    }

    public int base() {
        return latestBase;
    }

    public int work(int act, int p, int q, int r) {
        Fraction place = placeAt(p);
        Fraction left = placeAt(q);
        Fraction right = act == 3 ? left : placeAt(r);
        if (outside(act, 0, 3) || place == null || left == null || right == null) {
            return BAD;
        }
        if (!left.filled || !right.filled) {
            return NOTHING;
        }
        if (act == 0) {
            outcome.addUp(left, right, spare);
        } else if (act == 1) {
            outcome.multiply(left, right);
        } else if (act == 2) {
            outcome.copy(compare(left, right) <= 0 ? left : right);
        } else {
            outcome.lessThanOne(left);
        }
        return settle(place);
    }

    public int order(int p, int q) {
        Fraction left = placeAt(p);
        Fraction right = placeAt(q);
        if (left == null || right == null) {
            return BAD;
        }
        if (!left.filled || !right.filled) {
            return NOTHING;
        }
        return compare(left, right) + 1;
    }

    public int limbs(int p, int part) {
        Fraction place = placeAt(p);
        if (place == null || outside(part, 0, 1)) {
            return BAD;
        }
        if (!place.filled) {
            return NOTHING;
        }
        return place.half(part).size;
    }

    public long limb(int p, int part, int i) {
        Fraction place = placeAt(p);
        if (place == null || outside(part, 0, 1)) {
            return BAD;
        }
        if (!place.filled) {
            return NOTHING;
        }
        Num half = place.half(part);
        return i < 0 || i >= half.size ? NONE : half.word(i);
    }

    public long digits(int p, int n) {
        Fraction place = placeAt(p);
        if (place == null || outside(n, 0, MOST_TENS)) {
            return BAD;
        }
        if (!place.filled) {
            return NOTHING;
        }
        spare.copy(place.above);
        for (int i = 0; i < n; i++) {
            spare.scale(10);
        }
        Num whole = divider.divide(spare, place.below);
        return whole.bits() > LONG_BITS ? WIDE : whole.toLong();
    }

    public int free(int p) {
        Fraction place = placeAt(p);
        if (place == null) {
            return BAD;
        }
        int did = place.filled ? 1 : 0;
        place.filled = false;
        return did;
    }

    // ---- rounds and lines

    public int coin(int a, int b) {
        if (notOdds(a, b)) {
            return BAD;
        }
        coinA = a;
        coinB = b;
        return 1;
    }

    public int needed(int how, int w, int u, int v, int which) {
        if (outside(how, 0, 1) || outside(w, 1, 100) || outside(which, 0, 1)) {
            return BAD;
        }
        if (outside(u, 0, MILLION) || outside(v, 1, MILLION)) {
            return BAD;
        }
        int since = NONE;
        tosser.start(coinA, coinB);
        for (int n = 1; n <= MOST_TOSSES; n++) {
            boolean good = how == 0 ? tosser.isRareNext(w, u, v) : isNarrow(n, w, u, v);
            if (good && which == 0) {
                return n;
            }
            if (!good) {
                since = NONE;
            } else if (since == NONE) {
                since = n;
            }
        }
        return since;
    }

    public int line(int c, int d, int e) {
        if (outside(c, 0, LONGEST_LINE) || outside(d, 0, LONGEST_LINE) || outside(e, 1, LONGEST_LINE)) {
            return BAD;
        }
        lineC = c;
        lineD = d;
        lineE = e;
        return 1;
    }

    public int crossed(int p, int how, int n) {
        Fraction place = placeAt(p);
        if (place == null || outside(how, 0, 2) || outside(n, 1, MOST_TOSSES)) {
            return BAD;
        }
        tosser.start(coinA, coinB);
        outcome.above.clear();
        for (int i = 1; i <= n; i++) {
            outcome.above.scale(how == 1 ? 0 : coinB);
            tosser.tossNext();
            // h e is not below c e + d i, just where h is not below that by e, rounded up
            int least = lineC + (lineD * i + lineE - 1) / Math.max(lineE, 1);
            tosser.addFrom(least, how != 2, outcome.above);
        }
        outcome.below.copy(tosser.all);
        outcome.capAtOne();
        return settle(place);
    }

    public int count(int what) {
        switch (what) {
            case 0:
                return sourceCount;
            case 1:
                return weightCount;
            case 2:
                return filledPlaces();
            default:
                return BAD;
        }
    }

    // ---- helpers

    private static boolean outside(int number, int least, int most) {
        return number < least || number > most;
    }

    private static boolean notOdds(int a, int b) {
        return outside(b, 1, MOST_SIDES) || outside(a, 0, b);
    }

    private boolean isFull() {
        return sourceCount < 0 || sourceCount >= sources.length;
    }

    private Source sourceAt(int s) {
        return s < 0 || s >= sourceCount || s >= sources.length ? null : sources[s];
    }

    private Fraction placeAt(int p) {
        return p < 0 || p >= places.length ? null : places[p];
    }

    private int filledPlaces() {
        int filled = 0;
        for (int p = 0; p < places.length; p++) {
            Fraction place = placeAt(p);
            if (place != null && place.filled) {
                filled++;
            }
        }
        return filled;
    }

    private static int together(int[] numbers, int many) {
        int sum = 0;
        for (int i = 0; i < many && i < numbers.length; i++) {
            sum += numbers[i];
        }
        return sum;
    }

    // C(60, 30) times 60 is still within a long.
    private static long ways(int n, int k) {
        if (k < 0 || k > n) {
            return 0;
        }
        long found = 1;
        for (int i = 0; i < k; i++) {
            found = found * (n - i) / (i + 1);
        }
        return found;
    }

    private boolean isNarrow(int n, int w, int u, int v) {
        long share = 10000L * coinA * (coinB - coinA) * v;
        long trust = (long) u * n * coinB * coinB * w * w;
        return u >= v || share <= trust;
    }

    // COINS are SUMS with two WEIGHTS, so both are made here.
    private Row makeRounds(int n, int[] shares, int numbers) {
        spare.power(together(shares, numbers), n);
        int step = numbers - 1;
        Row row = new Row(n * step, spare.size);
        row.write(0, 1);
        for (int i = 1; i <= n; i++) {
            row.addRound(shares, numbers, i * step);
        }
        return row;
    }

    private int keep(int kind, Row row) {
        if (isFull()) {
            return FULL;
        }
        Source made = new Source(kind, row);
        outcome.above.clear();
        for (int v = 0; v <= row.top; v++) {
            row.addTo(made.total, v, 1);
            row.addTo(outcome.above, v, v);
        }
        outcome.below.copy(made.total);
        divider.toLowestTerms(outcome);
        made.mean.copy(outcome);
        sources[sourceCount] = made;
        sourceCount++;
        return sourceCount - 1;
    }

    private int settle(Fraction place) {
        divider.toLowestTerms(outcome);
        return store(place);
    }

    private int store(Fraction place) {
        if (outcome.above.bits() > FRACTION_BITS || outcome.below.bits() > FRACTION_BITS) {
            return WIDE;
        }
        place.copy(outcome);
        place.filled = true;
        return 1;
    }

    private int compare(Fraction left, Fraction right) {
        outcome.above.product(left.above, right.below);
        outcome.below.product(right.above, left.below);
        return outcome.above.against(outcome.below);
    }

    /** A whole number, not below 0, in parts of 32 bits, the lowest first; what lies behind size is old. */
    private static final class Num {
        final int[] part;
        int size = 0;

        Num(int room) {
            part = new int[Math.max(room, 2)];
        }

        void clear() {
            size = 0;
        }

        void put(long value) {
            part[0] = (int) value;
            part[1] = (int) (value >>> 32);
            size = 2;
            trim();
        }

        void copy(Num x) {
            size = Math.min(x.size, part.length);
            System.arraycopy(x.part, 0, part, 0, size);
        }

        void trim() {
            while (size > 0 && part[size - 1] == 0) {
                size--;
            }
        }

        long word(int i) {
            return i < 0 || i >= size ? 0 : part[i] & LOW;
        }

        boolean isOne() {
            return size == 1 && part[0] == 1;
        }

        long toLong() {
            return word(0) | word(1) << 32;
        }

        int bits() {
            if (size == 0) {
                return 0;
            }
            int top = part[size - 1];
            int found = size * 32;
            for (int i = 0; i < 32 && top > 0; i++) {
                top <<= 1;
                found--;
            }
            return found;
        }

        // The WINDOW bits from shift on; the number has no bits above them.
        long window(int shift) {
            int i = shift >> 5;
            int by = shift & 31;
            long low = (word(i) | word(i + 1) << 32) >>> by;
            return by == 0 ? low : low | word(i + 2) << (64 - by);
        }

        int against(Num x) {
            if (size != x.size) {
                return size < x.size ? -1 : 1;
            }
            for (int i = size - 1; i >= 0; i--) {
                if (part[i] != x.part[i]) {
                    return (part[i] & LOW) < (x.part[i] & LOW) ? -1 : 1;
                }
            }
            return 0;
        }

        void widenTo(int parts) {
            while (size < parts && size < part.length) {
                part[size] = 0;
                size++;
            }
        }

        void copyShifted(Num x, int shift) {
            int from = Math.max(shift, 0) >> 5;
            size = 0;
            widenTo(from + x.size + 1);
            long spill = 0;
            for (int i = from; i < size; i++) {
                spill |= x.word(i - from) << (shift & 31);
                part[i] = (int) spill;
                spill >>>= 32;
            }
            trim();
        }

        void add(Num x) {
            addScaled(0, x.part, 0, x.size, 1);
        }

        // Adds some of a row's cells times a factor of at most 2^31, the first of them to the part at.
        void addScaled(int at, int[] cells, int from, int many, long factor) {
            if (at < 0 || from < 0 || from > cells.length - many) {
                return;
            }
            int end = at + many;
            widenTo(Math.max(size, end + 1) + 1);
            long carry = 0;
            for (int i = at; i < size && (i < end || carry != 0); i++) {
                carry += part[i] & LOW;
                if (i < end) {
                    carry += (cells[from + i - at] & LOW) * factor;
                }
                part[i] = (int) carry;
                carry >>>= 32;
            }
            trim();
        }

        // What is taken away is never above what is here.
        void subtract(Num x) {
            long carry = 0;
            for (int i = 0; i < size; i++) {
                if (i >= x.size && carry == 0) {
                    break;
                }
                carry += (part[i] & LOW) - x.word(i);
                part[i] = (int) carry;
                carry >>= 32;
            }
            trim();
        }

        // The factor is below 2^31.
        void scale(long factor) {
            long carry = 0;
            for (int i = 0; i < size; i++) {
                carry += (part[i] & LOW) * factor;
                part[i] = (int) carry;
                carry >>>= 32;
            }
            if (carry != 0 && size < part.length) {
                part[size] = (int) carry;
                size++;
            }
            trim();
        }

        void power(int of, int exponent) {
            put(1);
            for (int i = 0; i < exponent; i++) {
                scale(of);
            }
        }

        // Neither factor is this number itself.
        void product(Num x, Num y) {
            size = 0;
            widenTo(x.size + y.size);
            for (int i = 0; i < x.size; i++) {
                long factor = x.part[i] & LOW;
                long carry = 0;
                for (int j = 0; j < y.size && i + j < size; j++) {
                    carry += (y.part[j] & LOW) * factor + (part[i + j] & LOW);
                    part[i + j] = (int) carry;
                    carry >>>= 32;
                }
                if (i + y.size < size) {
                    part[i + y.size] = (int) carry;
                }
            }
            trim();
        }

        void shiftDown(int by) {
            for (int i = 0; i < size; i++) {
                part[i] = (int) ((word(i) | word(i + 1) << 32) >>> by);
            }
            trim();
        }
    }

    private static final class Fraction {
        final Num above;
        final Num below;
        boolean filled = false;

        Fraction(int room) {
            above = new Num(room);
            below = new Num(room);
        }

        Num half(int part) {
            return part == 0 ? above : below;
        }

        void put(int up, int down) {
            above.put(up);
            below.put(down);
        }

        void copy(Fraction x) {
            above.copy(x.above);
            below.copy(x.below);
        }

        void capAtOne() {
            if (above.against(below) > 0) {
                put(1, 1);
            }
        }

        void addUp(Fraction x, Fraction y, Num spare) {
            above.product(x.above, y.below);
            spare.product(y.above, x.below);
            above.add(spare);
            below.product(x.below, y.below);
        }

        void multiply(Fraction x, Fraction y) {
            above.product(x.above, y.above);
            below.product(x.below, y.below);
        }

        void lessThanOne(Fraction x) {
            below.copy(x.below);
            above.clear();
            if (x.above.against(x.below) < 0) {
                above.copy(x.below);
                above.subtract(x.above);
            }
        }
    }

    /** A whole number for each value 0 .. top, each in as many parts as the sum of them takes. */
    private static final class Row {
        final int top;
        final int wide;
        private final int[] cells;

        Row(int highest, int parts) {
            top = Math.max(0, Math.min(highest, HIGHEST));
            wide = Math.max(1, Math.min(parts, TOTAL_PARTS));
            cells = new int[(top + 1) * wide];
        }

        private boolean lacks(int v) {
            return v < 0 || v > top;
        }

        long word(int v, int i) {
            return lacks(v) || i < 0 || i >= wide ? 0 : cells[v * wide + i] & LOW;
        }

        void write(int v, long value) {
            if (lacks(v)) {
                return;
            }
            cells[v * wide] = (int) value;
            if (wide > 1) {
                cells[v * wide + 1] = (int) (value >>> 32);
            }
        }

        void erase(int v) {
            for (int i = 0; i < wide && !lacks(v); i++) {
                cells[v * wide + i] = 0;
            }
        }

        void startAnew() {
            Arrays.fill(cells, 0);
            cells[0] = 1;
        }

        boolean isZero(int v) {
            for (int i = 0; i < wide; i++) {
                if (word(v, i) != 0) {
                    return false;
                }
            }
            return true;
        }

        int zeros() {
            int found = 0;
            for (int v = 0; v <= top; v++) {
                if (isZero(v)) {
                    found++;
                }
            }
            return found;
        }

        void addTo(Num sum, int v, int factor) {
            if (!lacks(v)) {
                sum.addScaled(0, cells, v * wide, wide, factor);
            }
        }

        void addShiftedTo(Num sum, int v, int shift) {
            if (!lacks(v)) {
                sum.addScaled(shift >> 5, cells, v * wide, wide, 1L << (shift & 31));
            }
        }

        // One round more, from the highest value down: so those below it are still of the round before.
        void addRound(int[] shares, int numbers, int reached) {
            int choices = Math.min(numbers, shares.length);
            for (int v = Math.min(reached, top); v >= 0; v--) {
                long carry = 0;
                for (int j = 0; j < wide; j++) {
                    for (int i = 0; i < choices && i <= v; i++) {
                        carry += (cells[(v - i) * wide + j] & LOW) * shares[i];
                    }
                    cells[v * wide + j] = (int) carry;
                    carry >>>= 32;
                }
            }
        }

        void addFrom(Row from, int v, int into) {
            if (lacks(into)) {
                return;
            }
            long carry = 0;
            for (int i = 0; i < wide; i++) {
                carry += word(into, i) + from.word(v, i);
                cells[into * wide + i] = (int) carry;
                carry >>>= 32;
            }
        }

        void addAllPairs(Row x, Row y) {
            for (int i = 0; i <= x.top; i++) {
                for (int j = 0; j <= y.top && !x.isZero(i); j++) {
                    addPair(x, i, y, j);
                }
            }
        }

        private void addPair(Row x, int i, Row y, int j) {
            if (lacks(i + j)) {
                return;
            }
            int from = (i + j) * wide;
            for (int p = 0; p < x.wide; p++) {
                long factor = x.word(i, p);
                long carry = 0;
                for (int q = p; q < wide && factor != 0; q++) {
                    if (q - p >= y.wide && carry == 0) {
                        break;
                    }
                    carry += y.word(j, q - p) * factor + (cells[from + q] & LOW);
                    cells[from + q] = (int) carry;
                    carry >>>= 32;
                }
            }
        }
    }

    private static final class Source {
        final int kind;
        final Row row;
        final Num total = new Num(TOTAL_PARTS);
        final Fraction mean = new Fraction(MEAN_PARTS);

        Source(int ofKind, Row counts) {
            kind = ofKind;
            row = counts;
        }
    }

    /** Long division, and Euclid's way to lowest terms, by leaps over several of its steps at once (Lehmer). */
    private static final class Divider {
        private final Num quotient = new Num(ROOM);
        private final Num divisor = new Num(ROOM);
        private Num rest = new Num(ROOM);
        private Num high = new Num(ROOM);
        private Num low = new Num(ROOM);
        // A leap makes a high + b low of high, and c high + d low of low.
        private long a = 1;
        private long b = 0;
        private long c = 0;
        private long d = 1;

        void toLowestTerms(Fraction x) {
            findCommon(x.above, x.below);
            if (high.isOne()) {
                return;
            }
            x.above.copy(divide(x.above, high));
            x.below.copy(divide(x.below, high));
        }

        // Answers the quotient; what is left over stays in rest.
        Num divide(Num x, Num y) {
            quotient.clear();
            int by = y.size * 32 - y.bits();
            divisor.copyShifted(y, by);
            rest.copyShifted(x, by);
            int places = rest.size - divisor.size;
            if (divisor.size > 0 && places >= 0 && places < quotient.part.length) {
                rest.widenTo(rest.size + 1);
                quotient.widenTo(places + 1);
                for (int at = places; at >= 0; at--) {
                    long guess = guessAt(at);
                    if (takeAway(at, guess)) {
                        giveBack(at);
                        guess--;
                    }
                    quotient.part[at] = (int) guess;
                }
                quotient.trim();
                rest.trim();
            }
            rest.shiftDown(by);
            return quotient;
        }

        // From the two highest parts of the divisor: right, or too high by one.
        private long guessAt(int at) {
            int n = divisor.size;
            long first = divisor.word(n - 1);
            long second = divisor.word(n - 2);
            long top = rest.word(at + n);
            long next = rest.word(at + n - 1);
            long guess = top >= first ? LOW : unsignedQuotient(top << 32 | next, first);
            long left = (top << 32 | next) - guess * first;
            for (int i = 0; i < 2 && left >= 0 && left <= LOW; i++) {
                if (guess * second + SIGN <= (left << 32 | rest.word(at + n - 2)) + SIGN) {
                    break;
                }
                guess--;
                left += first;
            }
            return guess;
        }

        private static long unsignedQuotient(long number, long by) {
            if (by <= 0) {
                return 0;
            }
            if (number >= 0) {
                return number / by;
            }
            long found = ((number >>> 1) / by) << 1;
            return number - found * by >= by ? found + 1 : found;
        }

        // Says if that was more than there is.
        private boolean takeAway(int at, long times) {
            int n = divisor.size;
            if (at < 0 || at + n >= rest.size) {
                return false;
            }
            long carry = 0;
            for (int i = 0; i < n; i++) {
                carry += divisor.word(i) * times;
                long left = (rest.part[at + i] & LOW) - (carry & LOW);
                rest.part[at + i] = (int) left;
                carry = (carry >>> 32) + (left < 0 ? 1 : 0);
            }
            long left = (rest.part[at + n] & LOW) - carry;
            rest.part[at + n] = (int) left;
            return left < 0;
        }

        private void giveBack(int at) {
            int n = divisor.size;
            if (at < 0 || at + n >= rest.size) {
                return;
            }
            long carry = 0;
            for (int i = 0; i <= n; i++) {
                carry += (rest.part[at + i] & LOW) + divisor.word(i);
                rest.part[at + i] = (int) carry;
                carry >>>= 32;
            }
        }

        // Leaves the greatest common divisor in high.
        private void findCommon(Num x, Num y) {
            boolean more = x.against(y) >= 0;
            high.copy(more ? x : y);
            low.copy(more ? y : x);
            for (int step = 0; step < STEP_LIMIT && low.size > 0; step++) {
                if (high.bits() <= WINDOW) {
                    finish();
                } else if (findLeap()) {
                    leap();
                } else {
                    divide(high, low);
                    moveOn();
                }
            }
        }

        private void finish() {
            long x = high.toLong();
            long y = low.toLong();
            for (int step = 0; step < STEP_LIMIT && y != 0; step++) {
                long left = x % y;
                x = y;
                y = left;
            }
            high.put(x);
            low.clear();
        }

        private void moveOn() {
            Num old = high;
            high = low;
            low = rest;
            rest = old;
        }

        // Goes on with the leading bits alone, as long as their quotients are sure to be those of the whole numbers.
        private boolean findLeap() {
            int shift = high.bits() - WINDOW;
            long x = high.window(shift);
            long y = low.window(shift);
            a = 1;
            b = 0;
            c = 0;
            d = 1;
            for (int step = 0; step < STEP_LIMIT && y + c > 0 && y + d > 0; step++) {
                long times = (x + a) / (y + c);
                if (times > HALF || times != (x + b) / (y + d)) {
                    break;
                }
                long nextC = a - times * c;
                long nextD = b - times * d;
                if (Math.abs(nextC) > HALF || Math.abs(nextD) > HALF) {
                    break;
                }
                a = c;
                b = d;
                c = nextC;
                d = nextD;
                long left = x - times * y;
                x = y;
                y = left;
            }
            return b != 0;
        }

        private void leap() {
            int n = high.size;
            low.widenTo(n);
            long up = 0;
            long down = 0;
            for (int i = 0; i < n && i < low.size; i++) {
                long x = high.word(i);
                long y = low.word(i);
                up += a * x + b * y;
                down += c * x + d * y;
                high.part[i] = (int) up;
                low.part[i] = (int) down;
                up >>= 32;
                down >>= 32;
            }
            high.trim();
            low.trim();
        }
    }

    /** TAILS, MOMENTS and BOUNDS of a SOURCE, not yet in lowest terms; s / t is the MEAN. */
    private static final class Measurer {
        private final Num first = new Num(ROOM);
        private final Num second = new Num(ROOM);
        private final Num third = new Num(ROOM);
        private final Num fourth = new Num(ROOM);
        private final Num bestSum = new Num(ROOM);
        private final Num bestPower = new Num(ROOM);

        void findTail(Source of, int k, int side, Fraction into) {
            into.above.clear();
            first.copyShifted(of.mean.above, 1);
            for (int v = 0; v <= of.row.top; v++) {
                if (isInTail(of, v, k, side)) {
                    of.row.addTo(into.above, v, 1);
                }
            }
            into.below.copy(of.total);
        }

        // (v - m)^2 is not below (k - m)^2, just where (v - k) (v + k - 2 m) is not below 0; first holds 2 s.
        private boolean isInTail(Source of, int v, int k, int side) {
            if (side == 0 || v == k) {
                return v >= k;
            }
            if (side == 1) {
                return v < k;
            }
            second.copy(of.mean.below);
            second.scale(v + k);
            int found = second.against(first);
            return v > k ? found >= 0 : found <= 0;
        }

        void findMoment(Source of, int n, Fraction into) {
            if (n == 2) {
                spreadOfTwo(of, into.above);
            } else {
                spreadOfFour(of, into.above);
            }
            second.copy(of.mean.below);
            raise(second, n);
            into.below.product(second, of.total);
        }

        boolean isAboveMean(Source of, int k) {
            second.copy(of.mean.below);
            second.scale(k);
            return second.against(of.mean.above) > 0;
        }

        void boundByMean(Source of, int k, Fraction into) {
            into.copy(of.mean);
            into.below.scale(k);
        }

        // MOMENT n by (k - MEAN)^n: the t^n below both of them is left out.
        void boundByMoment(Source of, int k, int kind, Fraction into) {
            if (kind == 2) {
                spreadOfFour(of, into.above);
            } else {
                spreadOfTwo(of, into.above);
            }
            second.copy(of.mean.below);
            second.scale(k);
            second.subtract(of.mean.above);
            raise(second, kind == 2 ? 4 : 2);
            into.below.product(second, of.total);
            if (kind == 3) {
                into.below.add(into.above);
            }
        }

        private void raise(Num x, int n) {
            for (int done = 1; done < n && done < 4; done += done) {
                first.product(x, x);
                x.copy(first);
            }
        }

        private void sumOfPowers(Source of, int n, Num into) {
            into.clear();
            for (int v = 1; v <= of.row.top; v++) {
                int factor = 1;
                for (int i = 0; i < n; i++) {
                    factor *= v;
                }
                of.row.addTo(into, v, factor);
            }
        }

        // The sum of (v t - s)^2 COUNT: as s TOTAL is t times the sum of v COUNT, it is t^2 S2 - s^2 TOTAL.
        private void spreadOfTwo(Source of, Num into) {
            first.product(of.mean.below, of.mean.below);
            sumOfPowers(of, 2, second);
            into.product(first, second);
            first.product(of.mean.above, of.mean.above);
            second.product(first, of.total);
            into.subtract(second);
        }

        // Likewise t^4 S4 + 6 t^2 s^2 S2 - 4 t^3 s S3 - 3 s^4 TOTAL, no part of it below 0 on the way.
        private void spreadOfFour(Source of, Num into) {
            Num s = of.mean.above;
            Num t = of.mean.below;
            first.product(t, t);
            second.product(first, first);
            sumOfPowers(of, 4, third);
            into.product(second, third);
            second.product(s, s);
            third.product(first, second);
            sumOfPowers(of, 2, second);
            fourth.product(third, second);
            fourth.scale(6);
            into.add(fourth);
            second.product(s, t);
            third.product(first, second);
            sumOfPowers(of, 3, second);
            fourth.product(third, second);
            fourth.scale(4);
            into.subtract(fourth);
            first.product(s, s);
            second.product(first, first);
            third.product(second, of.total);
            third.scale(3);
            into.subtract(third);
        }

        // Answers the BASE. What is weighed is convex in log t, so the first that is not less ends the search.
        int boundByPowers(Source of, int k, Fraction into) {
            int best = 0;
            for (int j = 5; j <= 12; j++) {
                weigh(of, j, into.above);
                into.below.power(j, k);
                if (best > 0) {
                    third.product(into.above, bestPower);
                    fourth.product(bestSum, into.below);
                    if (third.against(fourth) >= 0) {
                        break;
                    }
                }
                best = j;
                bestSum.copy(into.above);
                bestPower.copy(into.below);
            }
            int top = of.row.top;
            third.product(bestPower, of.total);
            into.above.copyShifted(bestSum, 2 * Math.max(k - top, 0));
            into.below.copyShifted(third, 2 * Math.max(top - k, 0));
            return best;
        }

        // The sum of COUNT times j^v times 4^(M - v).
        private void weigh(Source of, int j, Num into) {
            into.clear();
            for (int v = of.row.top; v >= 0; v--) {
                into.scale(j);
                of.row.addShiftedTo(into, v, 2 * (of.row.top - v));
            }
        }
    }

    /** THE COIN, tossed again and again: in how many ways it came to h, and in how many in all. */
    private static final class Tosser {
        final Num all = new Num(TOTAL_PARTS);
        private final Row row = new Row(MOST_TOSSES, TOTAL_PARTS);
        private final Num left = new Num(TOTAL_PARTS + 2);
        private final Num right = new Num(TOTAL_PARTS + 2);
        private final int[] shares = new int[2];
        private int tossed = 0;

        void start(int a, int b) {
            shares[0] = b - a;
            shares[1] = a;
            tossed = 0;
            all.put(1);
            row.startAnew();
        }

        void tossNext() {
            tossed++;
            row.addRound(shares, 2, tossed);
            all.scale(shares[0] + shares[1]);
        }

        void addFrom(int least, boolean takeOut, Num sum) {
            for (int h = Math.max(least, 0); h <= tossed; h++) {
                row.addTo(sum, h, 1);
                if (takeOut) {
                    row.erase(h);
                }
            }
        }

        boolean isRareNext(int w, int u, int v) {
            tossNext();
            int b = shares[0] + shares[1];
            left.clear();
            for (int k = 0; k <= tossed; k++) {
                if (Math.abs(k * b - shares[1] * tossed) * 100 >= w * tossed * b) {
                    row.addTo(left, k, 1);
                }
            }
            left.scale(v);
            right.copy(all);
            right.scale(u);
            return left.against(right) <= 0;
        }
    }
}
