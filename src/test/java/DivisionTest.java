import java.math.BigInteger;
import java.util.Random;

/** Long division and lowest terms on numbers that drawn calls would hardly ever come to, through the public face alone. */
public final class DivisionTest {
    private static final int CALLS = 512;
    // All LIMBS of the widest fraction, and how many there are.
    private static final int LOOK = 2 * 33;
    private static final int ROUNDS = 1500;
    // Each row is 2^95 and a little more, taken apart into factors that set() can take: so a part of the divisor
    // lies far below the two highest, and a quotient that is guessed from those two is often too high by one.
    private static final int[][] NEAR_POWERS = {
        {378857051, 1915741, 259321, 210474619},
        {84962459, 10039013, 7431769, 6249414},
        {1754802979, 107015959, 732453721, 288},
        {387470683, 65342593, 1614695363, 969},
        {29247661, 71335321, 1825662473, 10400},
        {1275123089, 51256789, 43523087, 13926},
    };
    // 2^63 and almost 2^32 more, and that 2^32 times: from the highest part alone a quotient is guessed too high by two.
    private static final int[][] HIGH_SECOND_PARTS = {
        {340477387, 203680669, 133},
        {12036853, 285385879, 2685},
        {68486683, 67949113, 23090579, 368659},
        {60359441, 5856469, 412191713, 271875},
    };
    private static final int[] ODD_NUMBERS = {1, 2, 3, 5, 255, 256, 65535, 65536, 65537, 1 << 30, (1 << 30) - 1, (1 << 30) + 1,
        Integer.MAX_VALUE, Integer.MAX_VALUE - 1, 1431655765, 715827883, 1073741823};
    private static int wrong = 0;

    private final TailBounds real = new TailBounds();
    private final BigInteger[][] held = new BigInteger[16][];
    private int calls = 0;

    private DivisionTest() {
    }

    public static void main(String[] args) {
        for (int[] first : NEAR_POWERS) {
            nearQuotients(first);
            for (int[] second : NEAR_POWERS) {
                nearQuotients(joined(first, second));
            }
        }
        for (int[] factors : HIGH_SECOND_PARTS) {
            nearQuotients(factors);
        }
        Random random = new Random(5);
        for (int round = 0; round < ROUNDS && wrong < 20; round++) {
            new DivisionTest().drawnWorks(random);
        }
        System.out.println(wrong == 0 ? "division: all as due" : "division: " + wrong + " not as due");
        if (wrong != 0) {
            System.exit(1);
        }
    }

    private static int[] joined(int[] x, int[] y) {
        int[] both = java.util.Arrays.copyOf(x, x.length + y.length);
        System.arraycopy(y, 0, both, x.length, y.length);
        return both;
    }

    // ---- whole numbers by a divisor

    /** What lies right at, below and above a multiple of the divisor, and of the power of 2 that it lies above. */
    private static void nearQuotients(int[] factors) {
        BigInteger divisor = BigInteger.ONE;
        for (int factor : factors) {
            divisor = divisor.multiply(BigInteger.valueOf(factor));
        }
        BigInteger power = BigInteger.TWO.pow(divisor.bitLength() - 1);
        long[] quotients = {1, 2, 0x7FFFFFFFL, 0x80000000L, 0xC0000001L, 0xFFFFFFF0L, 0xFFFFFFFDL, 0xFFFFFFFEL, 0xFFFFFFFFL, 0x100000000L, 0x100000001L, 0x7FFFFFFF00000001L, Long.MAX_VALUE, 0x123456789ABCDEFL};
        for (long quotient : quotients) {
            BigInteger times = BigInteger.valueOf(quotient);
            for (int more = -1; more <= 1; more++) {
                BigInteger little = BigInteger.valueOf(more);
                byDivisor(times.multiply(divisor).add(little), factors);
                byDivisor(times.multiply(power).add(little), factors);
            }
        }
    }

    private static void byDivisor(BigInteger number, int[] factors) {
        DivisionTest x = new DivisionTest();
        x.build(0, number);
        for (int factor : factors) {
            x.set(1, 1, factor);
            x.work(1, 0, 0, 1);
        }
        x.look(0);
        x.digits(0, 0);
        x.digits(0, 9);
        x.digits(0, 18);
    }

    /** 30 bits at a time, the highest first. */
    private void build(int p, BigInteger number) {
        set(p, 0, 1);
        set(15, 1 << 30, 1);
        for (int at = number.bitLength() / 30; at >= 0; at--) {
            work(1, p, p, 15);
            set(14, number.shiftRight(30 * at).intValue() & ((1 << 30) - 1), 1);
            work(0, p, p, 14);
        }
    }

    // ---- drawn works

    /** Fractions of odd numbers, so that parts of all ones, all zeros or a single bit are common. */
    private void drawnWorks(Random random) {
        for (int p = 0; p < 6; p++) {
            set(p, oddNumber(random), oddNumber(random));
        }
        while (calls < CALLS - 2 * LOOK) {
            int p = random.nextInt(6);
            int way = random.nextInt(20);
            if (way < 2) {
                set(p, oddNumber(random), oddNumber(random));
            } else if (way < 17) {
                work(way % 5 == 0 ? 3 : way % 3 == 0 ? 0 : 1, p, random.nextInt(6), random.nextInt(6));
            } else if (way < 19) {
                digits(p, random.nextInt(19));
            } else {
                look(p);
            }
        }
        look(random.nextInt(6));
    }

    private static int oddNumber(Random random) {
        return ODD_NUMBERS[random.nextInt(ODD_NUMBERS.length)];
    }

    // ---- each call, and what is due

    private void due(String what, long got, long want) {
        calls++;
        if (got != want) {
            wrong++;
            System.out.println("call " + calls + ": " + what + " answered " + got + ", due is " + want);
        }
    }

    private void set(int p, int above, int below) {
        put(p, BigInteger.valueOf(above), BigInteger.valueOf(below));
        due("set(" + p + ", " + above + ", " + below + ")", real.set(p, above, below), 1);
    }

    /** Says if it is not too WIDE. */
    private boolean put(int p, BigInteger above, BigInteger below) {
        BigInteger common = above.gcd(below);
        BigInteger[] lowest = {above.divide(common), below.divide(common)};
        if (lowest[0].bitLength() > 1024 || lowest[1].bitLength() > 1024) {
            return false;
        }
        held[p] = lowest;
        return true;
    }

    private void work(int act, int p, int q, int r) {
        BigInteger[] x = held[q];
        BigInteger[] y = held[r];
        boolean fits;
        if (act == 0) {
            fits = put(p, x[0].multiply(y[1]).add(y[0].multiply(x[1])), x[1].multiply(y[1]));
        } else if (act == 1) {
            fits = put(p, x[0].multiply(y[0]), x[1].multiply(y[1]));
        } else {
            fits = put(p, x[1].subtract(x[0]).max(BigInteger.ZERO), x[1]);
        }
        due("work(" + act + ", " + p + ", " + q + ", " + r + ")", real.work(act, p, q, r), fits ? 1 : -4);
    }

    private void digits(int p, int n) {
        BigInteger whole = held[p][0].multiply(BigInteger.TEN.pow(n)).divide(held[p][1]);
        due("digits(" + p + ", " + n + ")", real.digits(p, n), whole.bitLength() > 63 ? -4 : whole.longValue());
    }

    private void look(int p) {
        for (int part = 0; part < 2; part++) {
            int many = (held[p][part].bitLength() + 31) / 32;
            due("limbs(" + p + ", " + part + ")", real.limbs(p, part), many);
            for (int i = 0; i < many; i++) {
                due("limb(" + p + ", " + part + ", " + i + ")", real.limb(p, part, i), held[p][part].shiftRight(32 * i).longValue() & 0xFFFFFFFFL);
            }
        }
    }
}
