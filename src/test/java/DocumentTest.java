import java.io.IOException;
import java.math.BigInteger;

/**
 * The sentences of the document ahead of the promises that name no boundary case, from its first line on.
 * Each test reckons what is due by the sentence itself: it goes through all cases, or works the formula out as it stands there.
 */
public final class DocumentTest extends Checks {
    private static final String IS = "What it is";
    private static final String TERMS = "Terms";
    private static final int[] WEIGHTS = {2, 0, 3, 1};
    // SOURCES of an object that sources() made
    private static final int COINS = 0, DRAWN = 1, SUMS = 2, BOTH = 3, HELD = 4, MANY = 5;

    private DocumentTest() {
    }

    public static void main(String[] args) throws IOException {
        readDocument();
        coins();
        drawnWithoutPuttingBack();
        sumsOfATable();
        sumsOfTwo();
        heldWithin();
        tailsAsWideAsTheyNeed();
        boundsNeverBelowTails();
        roundsThatAreNeeded();
        linesThatAreCrossed();
        smallOnesCaseByCase();
        wholeCounts();
        theMean();
        firstKindOfBound();
        secondKindOfBound();
        thirdKindOfBound();
        lastKindOfBound();
        thrownCoin();
        if (!end("document")) {
            System.exit(1);
        }
    }

    /** One SOURCE of each KIND. */
    private static TailBounds sources() {
        TailBounds x = new TailBounds();
        for (int w : WEIGHTS) {
            x.weight(w);
        }
        due(x.coins(5, 2, 3), COINS);
        due(x.drawn(9, 4, 3), DRAWN);
        due(x.sums(4), SUMS);
        due(x.both(COINS, DRAWN), BOTH);
        due(x.held(SUMS, 3, 9), HELD);
        return x;
    }

    /** The COUNTS of such a SOURCE, by going through all cases. */
    private static long[] cases(int s) {
        switch (s) {
            case COINS:
                return casesOfCoins(5, 2, 3);
            case DRAWN:
                return casesOfDrawn(9, 4, 3);
            case SUMS:
                return casesOfSums(4);
            case BOTH:
                return casesOfBoth(cases(COINS), cases(DRAWN));
            default:
                return casesOfHeld(cases(SUMS), 3, 9);
        }
    }

    private static long[] casesOfCoins(int n, int a, int b) {
        long[] counts = new long[n + 1];
        for (long row = 0; row < (long) Math.pow(b, n); row++) {
            long left = row;
            int came = 0;
            for (int i = 0; i < n; i++) {
                came += left % b < a ? 1 : 0;
                left /= b;
            }
            counts[came]++;
        }
        return counts;
    }

    private static long[] casesOfDrawn(int all, int good, int n) {
        long[] counts = new long[n + 1];
        for (int hand = 0; hand < 1 << all; hand++) {
            if (Integer.bitCount(hand) == n) {
                counts[Integer.bitCount(hand & (1 << good) - 1)]++;
            }
        }
        return counts;
    }

    private static long[] casesOfSums(int n) {
        long[] counts = new long[n * (WEIGHTS.length - 1) + 1];
        for (long row = 0; row < (long) Math.pow(WEIGHTS.length, n); row++) {
            long left = row;
            int sum = 0;
            long product = 1;
            for (int i = 0; i < n; i++) {
                int number = (int) (left % WEIGHTS.length);
                sum += number;
                product *= WEIGHTS[number];
                left /= WEIGHTS.length;
            }
            counts[sum] += product;
        }
        return counts;
    }

    private static long[] casesOfBoth(long[] one, long[] other) {
        long[] counts = new long[one.length + other.length - 1];
        for (int i = 0; i < one.length; i++) {
            for (int j = 0; j < other.length; j++) {
                counts[i + j] += one[i] * other[j];
            }
        }
        return counts;
    }

    private static long[] casesOfHeld(long[] one, int lo, int hi) {
        long[] counts = new long[one.length];
        for (int v = 0; v < one.length; v++) {
            counts[v < lo ? lo : v > hi ? hi : v] += one[v];
        }
        return counts;
    }

    // ---- the first line

    private static void coins() {
        sentence(IS, "Counts with exact odds: coins");
        counts(sources(), COINS, cases(COINS));
    }

    private static void drawnWithoutPuttingBack() {
        sentence(IS, "things drawn without putting back");
        counts(sources(), DRAWN, cases(DRAWN));
    }

    private static void sumsOfATable() {
        sentence(IS, "sums of a table");
        counts(sources(), SUMS, cases(SUMS));
        sentence(TERMS, "n rounds, each gives a number i by w i");
        TailBounds x = sources();
        due(x.sums(1), 5);
        counts(x, 5, 2, 0, 3, 1);
        sentence(TERMS, "COUNTS: over all rows of n numbers with that sum the products of their WEIGHTS, added.");
        counts(sources(), SUMS, cases(SUMS));
    }

    private static void sumsOfTwo() {
        sentence(IS, "sums of two");
        counts(sources(), BOTH, cases(BOTH));
        sentence(TERMS, "the COUNT of v is the sum, over all i, of that of x at i times that of y at v - i.");
        TailBounds x = sources();
        due(x.both(SUMS, DRAWN), 5);
        counts(x, 5, casesOfBoth(cases(SUMS), cases(DRAWN)));
        due(x.both(DRAWN, SUMS), 6);
        counts(x, 6, casesOfBoth(cases(SUMS), cases(DRAWN)));
    }

    private static void heldWithin() {
        sentence(IS, "values held within");
        counts(sources(), HELD, cases(HELD));
    }

    private static void tailsAsWideAsTheyNeed() {
        sentence(IS, "their tails as fractions as wide as they need");
        TailBounds x = new TailBounds();
        x.coins(40, 29, 59);
        for (int k = 40; k >= 38; k--) {
            due(x.tail(0, 0, k, 0), 1);
            BigInteger above = BigInteger.ZERO;
            for (int v = k; v <= 40; v++) {
                BigInteger ways = BigInteger.valueOf(v == 40 ? 1 : v == 39 ? 40 : 780);
                above = above.add(ways.multiply(power(29, v)).multiply(power(30, 40 - v)));
            }
            share(x, 0, above, power(59, 40));
        }
    }

    private static void boundsNeverBelowTails() {
        sentence(IS, "bounds of five kinds that never lie below them");
        for (int s = 0; s < MANY; s++) {
            for (int kind = 0; kind < 5; kind++) {
                TailBounds x = sources();
                for (int k = 0; k <= 120; k++) {
                    due(x.tail(0, s, k, 0), 1);
                    due(x.bound(1, s, k, kind), 1);
                    due(Math.min(x.order(1, 0), 1), 1);
                }
            }
        }
    }

    private static void roundsThatAreNeeded() {
        sentence(IS, "rounds that are needed");
        TailBounds x = new TailBounds();
        x.coin(1, 4);
        for (int w = 10; w <= 60; w += 5) {
            for (int u = 1; u < 10; u += 2) {
                int least = 0;
                for (int n = 10; n >= 1; n--) {
                    least = isGood(n, w, u) ? n : least;
                }
                int answer = x.needed(0, w, u, 10, 0);
                due(answer >= 1 && answer <= 10 ? answer : 0, least);
            }
        }
    }

    /** All rows of n throws with odds of 1 / 4: the share of those that are off by w / 100 is not above u / 10. */
    private static boolean isGood(int n, int w, int u) {
        long[] counts = casesOfCoins(n, 1, 4);
        long far = 0;
        long all = 0;
        for (int k = 0; k <= n; k++) {
            all += counts[k];
            far += 100 * Math.abs(4 * k - n) >= w * 4 * n ? counts[k] : 0;
        }
        return far * 10 <= all * u;
    }

    private static void linesThatAreCrossed() {
        sentence(IS, "lines that are crossed");
        TailBounds x = new TailBounds();
        due(x.line(1, 1, 2), 1);
        // of two throws, only a and a comes to 1 + 1; of four, two rows more come to 1 + 2 at last
        due(x.crossed(0, 0, 2), 1);
        share(x, 0, 1, 4);
        due(x.crossed(0, 0, 4), 1);
        share(x, 0, 4 + 2, 16);
    }

    private static void smallOnesCaseByCase() {
        sentence(IS, "small ones gone through case by case");
        rowsThatComeTo(COINS);
        sentence("Promise 10: counted", "All rows of cases gone through one by one");
        rowsThatComeTo(SUMS);
        sentence("Promise 10: counted", "how many of these rows come to k and more.");
        rowsThatComeTo(COINS);
        rowsThatComeTo(SUMS);
    }

    private static void rowsThatComeTo(int s) {
        TailBounds x = sources();
        long[] counts = cases(s);
        for (int k = 0; k <= 120; k++) {
            long rows = 0;
            for (int v = k; v < counts.length; v++) {
                rows += counts[v];
            }
            due(x.counted(s, k), rows);
        }
    }

    // ---- terms

    private static void wholeCounts() {
        sentence(TERMS, "have VALUES 0 .. M, each with a COUNT, a whole number");
        for (int s = 0; s < MANY; s++) {
            TailBounds x = sources();
            long[] counts = cases(s);
            int zeros = 0;
            for (long count : counts) {
                zeros += count == 0 ? 1 : 0;
            }
            due(x.source(s, 1), counts.length - 1);
            due(x.source(s, 2), Long.toBinaryString(total(counts)).length());
            due(x.source(s, 3), zeros);
        }
    }

    private static void theMean() {
        sentence(TERMS, "The MEAN is the sum of all v times COUNT, by the TOTAL");
        TailBounds x = sources();
        for (int s = 0; s < MANY; s++) {
            due(x.mean(0, s), 1);
            share(x, 0, firstSum(cases(s)), total(cases(s)));
        }
    }

    private static void firstKindOfBound() {
        sentence(TERMS, "1: MOMENT 2 / (k - MEAN)^2.");
        boundsAreDue(1);
    }

    private static void secondKindOfBound() {
        sentence(TERMS, "2: MOMENT 4 / (k - MEAN)^4.");
        boundsAreDue(2);
    }

    private static void thirdKindOfBound() {
        sentence(TERMS, "3: MOMENT 2 / (MOMENT 2 + (k - MEAN)^2).");
        boundsAreDue(3);
    }

    private static void lastKindOfBound() {
        sentence(TERMS, "the sum of t^v times COUNT, by TOTAL times t^k");
        boundsAreDue(4);
    }

    private static void boundsAreDue(int kind) {
        for (int s = 0; s < MANY; s++) {
            TailBounds x = sources();
            long[] counts = cases(s);
            for (int k = 0; k < 20; k++) {
                due(x.bound(0, s, k, kind), 1);
                BigInteger[] want = kind == 4 ? byPowers(counts, k) : byMoments(counts, k, kind);
                boolean isOne = k * total(counts) <= firstSum(counts) || want[0].compareTo(want[1]) > 0;
                share(x, 0, isOne ? BigInteger.ONE : want[0], isOne ? BigInteger.ONE : want[1]);
            }
        }
    }

    /** All of it times TOTAL^n, so that it stays whole: (v TOTAL - sum)^n for |v - MEAN|^n. */
    private static BigInteger[] byMoments(long[] counts, int k, int kind) {
        int n = kind == 2 ? 4 : 2;
        long total = total(counts);
        BigInteger above = BigInteger.ZERO;
        for (int v = 0; v < counts.length; v++) {
            above = above.add(power(v * total - firstSum(counts), n).multiply(BigInteger.valueOf(counts[v])));
        }
        BigInteger below = power(k * total - firstSum(counts), n).multiply(BigInteger.valueOf(total));
        return new BigInteger[] {above, kind == 3 ? below.add(above) : below};
    }

    /** The least of all eight, each times 4^30, which is above all VALUES and k here. */
    private static BigInteger[] byPowers(long[] counts, int k) {
        BigInteger[] least = null;
        for (int j = 5; j <= 12; j++) {
            BigInteger above = BigInteger.ZERO;
            for (int v = 0; v < counts.length; v++) {
                above = above.add(BigInteger.valueOf(counts[v]).multiply(power(j, v)).multiply(power(4, 30 - v)));
            }
            BigInteger below = BigInteger.valueOf(total(counts)).multiply(power(j, k)).multiply(power(4, 30 - k));
            if (least == null || above.multiply(least[1]).compareTo(least[0].multiply(below)) < 0) {
                least = new BigInteger[] {above, below};
            }
        }
        return least;
    }

    private static void thrownCoin() {
        sentence(TERMS, "THE COIN is thrown, i times by now, h of them came to a");
        TailBounds x = new TailBounds();
        x.coin(2, 5);
        for (int c = 0; c <= 6; c++) {
            // a level LINE is CROSSED at some i to 6, just where it is at 6
            x.line(c, 0, 1);
            long[] counts = casesOfCoins(6, 2, 5);
            long came = 0;
            for (int h = c; h <= 6; h++) {
                came += counts[h];
            }
            due(x.crossed(0, 0, 6), 1);
            share(x, 0, came, total(counts));
        }
    }

    private static long total(long[] counts) {
        long sum = 0;
        for (long count : counts) {
            sum += count;
        }
        return sum;
    }

    private static long firstSum(long[] counts) {
        long sum = 0;
        for (int v = 0; v < counts.length; v++) {
            sum += v * counts[v];
        }
        return sum;
    }

    private static BigInteger power(long base, int exponent) {
        return BigInteger.valueOf(base).pow(exponent);
    }
}
