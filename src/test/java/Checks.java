import java.io.IOException;
import java.math.BigInteger;
import java.nio.file.Files;
import java.nio.file.Path;
import java.util.ArrayList;
import java.util.List;
import java.util.Map;
import java.util.Set;
import java.util.TreeMap;
import java.util.TreeSet;

/** What the tests of the document share: names that quote it, and twins that tell what a call has changed. */
class Checks {
    static final int BAD = -1, NOTHING = -2, FULL = -3, WIDE = -4, NONE = -5;
    static final int MIN = Integer.MIN_VALUE, MAX = Integer.MAX_VALUE;
    static final int CALLS = 512;

    /** Calls that bring an object to where a test begins. */
    interface Setup {
        void on(TailBounds x);
    }

    interface Call {
        long on(TailBounds x);
    }

    private static final Map<String, String> DOCUMENT = new TreeMap<>();
    private static final Set<String> TOLD = new TreeSet<>();
    private static String name = "";
    private static int tests = 0;
    private static int step = 0;
    private static int answers = 0;
    private static int wrong = 0;

    Checks() {
    }

    // ---- the document

    static void readDocument() throws IOException {
        Path path = Path.of(System.getProperty("shared", "../shared"), "DOC.md");
        for (String section : Files.readString(path).split("(?m)^## ")) {
            int end = section.indexOf('\n');
            if (end > 0) {
                DOCUMENT.put(section.substring(0, end).trim(), flat(section.substring(end)));
            }
        }
    }

    private static String flat(String text) {
        return text.replaceAll("\\s+", " ").trim();
    }

    /** Begins the test of one sentence; the heading and the words must stand in the document, so that they can be found there. */
    static void sentence(String heading, String quote) {
        begin(heading, heading + " | " + quote);
        if (!DOCUMENT.getOrDefault(heading, "").contains(flat(quote))) {
            fail("the document does not say so there");
        }
    }

    /** Begins the test of all that stands under one heading. */
    static void heading(String heading) {
        begin(heading, heading);
        if (!DOCUMENT.containsKey(heading)) {
            fail("the document has no such heading");
        }
    }

    private static void begin(String heading, String test) {
        endTest();
        name = test;
        step = 0;
        tests++;
        TOLD.add(heading);
    }

    private static void endTest() {
        if (tests > 0 && step == 0) {
            fail("nothing was tested");
        }
    }

    static void everyPromise() {
        for (String heading : DOCUMENT.keySet()) {
            if (heading.startsWith("Promise ") && !TOLD.contains(heading)) {
                wrong++;
                System.out.println("no test for " + heading);
            }
        }
    }

    /** Answers if all was as due. */
    static boolean end(String what) {
        endTest();
        System.out.println(what + ": " + tests + " tests, " + answers + " answers, " + wrong + " not as due");
        return wrong == 0;
    }

    private static void fail(String what) {
        wrong++;
        System.out.println(name + " | step " + step + ": " + what);
    }

    // ---- answers

    static void due(long got, long want) {
        step++;
        answers++;
        if (got != want) {
            fail("answered " + got + ", due is " + want);
        }
    }

    static void holds(TailBounds x, int p, long above, long below) {
        holds(x, p, BigInteger.valueOf(above), BigInteger.valueOf(below));
    }

    /** What a PLACE holds, told by all of its LIMBS. */
    static void holds(TailBounds x, int p, BigInteger above, BigInteger below) {
        part(x, p, 0, above);
        part(x, p, 1, below);
    }

    private static void part(TailBounds x, int p, int part, BigInteger want) {
        int many = (want.bitLength() + 31) / 32;
        due(x.limbs(p, part), many);
        for (int i = 0; i < many; i++) {
            due(x.limb(p, part, i), want.shiftRight(32 * i).longValue() & 0xFFFFFFFFL);
        }
        due(x.limb(p, part, many), NONE);
    }

    /** The COUNTS of a SOURCE of which the TOTAL is known, told by its TAILS. PLACE 15 is used for it and emptied. */
    static void counts(TailBounds x, int s, long... counts) {
        due(x.source(s, 1), counts.length - 1);
        long total = 0;
        for (long count : counts) {
            total += count;
        }
        due(x.source(s, 2), BigInteger.valueOf(total).bitLength());
        long sum = 0;
        for (int v = counts.length - 1; v >= 0; v--) {
            sum += counts[v];
            due(x.tail(15, s, v, 0), 1);
            share(x, 15, sum, total);
        }
        due(x.free(15), 1);
    }

    /** Like holds, but the fraction need not be told in lowest terms. */
    static void share(TailBounds x, int p, long above, long below) {
        share(x, p, BigInteger.valueOf(above), BigInteger.valueOf(below));
    }

    static void share(TailBounds x, int p, BigInteger above, BigInteger below) {
        BigInteger common = above.gcd(below);
        holds(x, p, above.divide(common), below.divide(common));
    }

    static int bits(TailBounds x, int p, int part) {
        int many = x.limbs(p, part);
        return many <= 0 ? many : 32 * many - Integer.numberOfLeadingZeros((int) x.limb(p, part, many - 1));
    }

    static int[] row(int... numbers) {
        return numbers;
    }

    // ---- twins

    /** The answer of each call is the one that is due, and the object is then as one that was never asked. */
    static void refused(Setup setup, long want, Call... calls) {
        for (Call call : calls) {
            TailBounds asked = new TailBounds();
            TailBounds twin = new TailBounds();
            setup.on(asked);
            setup.on(twin);
            due(call.on(asked), want);
            List<String> now = portrait(asked);
            List<String> before = portrait(twin);
            for (int i = 0; i < before.size(); i++) {
                step++;
                if (i >= now.size() || !now.get(i).equals(before.get(i))) {
                    fail("the refused call has changed " + before.get(i) + " to " + (i < now.size() ? now.get(i) : "nothing"));
                    return;
                }
            }
        }
    }

    /**
     * What can be seen of an object in less than 300 calls; it is of no use for a test afterwards.
     * Of wide numbers only the ends are shown, and with 16 SOURCES there is no way to look at the WEIGHTS but their number.
     */
    private static List<String> portrait(TailBounds x) {
        List<String> seen = new ArrayList<>();
        for (int what = 0; what < 3; what++) {
            seen.add("count(" + what + ") " + x.count(what));
        }
        seen.add("base() " + x.base());
        for (int p = 0; p < 16; p++) {
            int above = x.limbs(p, 0);
            int below = x.limbs(p, 1);
            seen.add("PLACE " + p + ": " + above + " / " + below + " LIMBS, " + x.limb(p, 0, 0) + " .. " + x.limb(p, 0, above - 1)
                + " / " + x.limb(p, 1, 0) + " .. " + x.limb(p, 1, below - 1) + ", " + x.digits(p, 9));
        }
        for (int s = 0; s < 16; s++) {
            seen.add("SOURCE " + s + ": " + x.source(s, 0) + " " + x.source(s, 1) + " " + x.source(s, 2) + " " + x.source(s, 3)
                + ", MEAN " + x.mean(0, s) + " " + x.digits(0, 12) + ", TAIL " + x.tail(0, s, 2, 0) + " " + x.digits(0, 18));
        }
        for (int how = 0; how < 3; how++) {
            for (int n = 1; n < 8; n += 3) {
                seen.add("crossed(0, " + how + ", " + n + ") " + x.crossed(0, how, n) + " " + x.digits(0, 18));
            }
        }
        for (int how = 0; how < 2; how++) {
            seen.add("needed(" + how + ", 30, 1, 10, 0) " + x.needed(how, 30, 1, 10, 0));
        }
        int s = x.sums(1);
        for (int k = 0; k < 8; k++) {
            seen.add("WEIGHTS in SOURCE " + s + " from " + k + " on: " + x.counted(s, k));
        }
        seen.add("wipe() " + x.wipe());
        return seen;
    }

    // ---- where tests begin

    /** Something of everything, and room for more. */
    static void some(TailBounds x) {
        x.weight(3);
        x.weight(0);
        x.weight(2);
        x.coins(4, 1, 3);
        x.drawn(5, 2, 3);
        x.sums(2);
        x.both(0, 1);
        x.held(0, 1, 3);
        x.set(0, 2, 3);
        x.set(7, 9, 2);
        x.mean(15, 3);
        x.bound(3, 0, 3, 4);
        x.coin(2, 3);
        x.line(1, 1, 3);
    }

    /** The SOURCES of some(), and as many more as there can be. */
    static void allSources(TailBounds x) {
        some(x);
        fillSources(x);
    }

    static void fillSources(TailBounds x) {
        for (int s = x.count(0); s < 16; s++) {
            x.coins(s % 5, 1, 2);
        }
    }

    /** The WEIGHTS of some(), and as many more as there can be. */
    static void allWeights(TailBounds x) {
        some(x);
        for (int i = x.count(1); i < 8; i++) {
            x.weight(i);
        }
    }

    /** A PLACE holds 2 to the power of n, built in some 20 calls. */
    static void power(TailBounds x, int p, int n) {
        x.set(p, 1, 1);
        for (int bit = 11; bit >= 0; bit--) {
            x.work(1, p, p, p);
            if ((n >> bit & 1) == 1) {
                x.work(0, p, p, p);
            }
        }
    }

    /** A PLACE holds 1 / 2 to the power of n; another PLACE holds 1 / 2 afterwards. */
    static void inversePower(TailBounds x, int p, int half, int n) {
        x.set(half, 1, 2);
        x.set(p, 1, 1);
        for (int bit = 11; bit >= 0; bit--) {
            x.work(1, p, p, p);
            if ((n >> bit & 1) == 1) {
                x.work(1, p, p, half);
            }
        }
    }

    /** A PLACE holds 2 to the power of (2 to the power of doublings), less 1; another PLACE is used for it and emptied. */
    static void allOnes(TailBounds x, int p, int spare, int doublings) {
        x.set(p, 1, 1);
        for (int i = 0; i < doublings; i++) {
            x.work(1, spare, p, p);
            x.work(0, p, p, p);
            x.work(0, p, spare, p);
        }
        x.free(spare);
    }

    /** SOURCE 2 has a TOTAL of 2^255, which are 256 bits; 0 and 1 are its halves, 3 has a TOTAL of 2, 4 one of 1. */
    static void wideTotal(TailBounds x) {
        x.coins(40, 5, 32);
        x.coins(11, 3, 32);
        x.both(0, 1);
        x.coins(1, 1, 2);
        x.coins(0, 1, 2);
    }

    /** SOURCE 3 is HELD, of BOTH of two COINS, so that its MEAN has as many bits as its TOTAL. */
    static void wideMean(TailBounds x, int[] one, int[] other, int lo, int hi) {
        x.coins(one[0], one[1], one[2]);
        x.coins(other[0], other[1], other[2]);
        x.both(0, 1);
        x.held(2, lo, hi);
    }
}
