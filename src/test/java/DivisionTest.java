import java.lang.reflect.Constructor;
import java.lang.reflect.Field;
import java.lang.reflect.Method;
import java.math.BigInteger;
import java.util.Random;

/** The long division and the lowest terms inside, on numbers that drawn calls would hardly ever come to. */
public final class DivisionTest {
    private static final int ROOM = 72;
    private static int wrong = 0;
    private static Class<?> num;
    private static Class<?> fraction;
    private static Object divider;
    private static Method divide;
    private static Method lowest;
    private static Field rest;

    public static void main(String[] args) throws Exception {
        find();
        Random random = new Random(5);
        for (int round = 0; round < 200000 && wrong < 20; round++) {
            BigInteger y = odd(random, 1 + random.nextInt(33));
            BigInteger x = odd(random, random.nextInt(33)).add(random.nextBoolean() ? BigInteger.ZERO : y.multiply(odd(random, random.nextInt(20))));
            if (y.signum() > 0) {
                checkDivision(x, y);
            }
        }
        // where the guess is too high by one, though two parts of the divisor agree
        checkDivision(hex("800000000000000000000003"), hex("200000000000000000000001"));
        checkDivision(hex("00007fff000080000000000000000000"), hex("000080000000000000000001"));
        checkDivision(hex("00008000000000000000fffe00000000"), hex("00008000000000000000ffff"));
        checkDivision(hex("80000000fffffffe00000000"), hex("80000000" + "0000ffff"));
        checkDivision(hex("7fffffff800000010000000000000000"), hex("800000008000000200000005"));
        checkDivision(hex("7fffffff800000000000000000000000"), hex("800000000000000000000001"));
        for (int round = 0; round < 20000 && wrong < 20; round++) {
            checkLowest(random, round);
        }
        System.out.println(wrong == 0 ? "division: all as due" : "division: " + wrong + " not as due");
        if (wrong != 0) {
            System.exit(1);
        }
    }

    private static void find() throws Exception {
        num = Class.forName("TailBounds$Num");
        fraction = Class.forName("TailBounds$Fraction");
        Class<?> kind = Class.forName("TailBounds$Divider");
        Constructor<?> made = kind.getDeclaredConstructor();
        made.setAccessible(true);
        divider = made.newInstance();
        divide = kind.getDeclaredMethod("divide", num, num);
        divide.setAccessible(true);
        lowest = kind.getDeclaredMethod("toLowestTerms", fraction);
        lowest.setAccessible(true);
        rest = kind.getDeclaredField("rest");
        rest.setAccessible(true);
    }

    private static BigInteger hex(String digits) {
        return new BigInteger(digits, 16);
    }

    /** Parts that are all ones, all zeros or a single bit make the rare ways of a division common. */
    private static BigInteger odd(Random random, int parts) {
        BigInteger x = BigInteger.ZERO;
        for (int i = 0; i < parts; i++) {
            int way = random.nextInt(5);
            long part = way == 0 ? 0 : way == 1 ? 0xFFFFFFFFL : way == 2 ? 0x80000000L : way == 3 ? random.nextInt(3) : random.nextInt() & 0xFFFFFFFFL;
            x = x.shiftLeft(32).add(BigInteger.valueOf(part));
        }
        return x;
    }

    private static Object inside(BigInteger x) throws Exception {
        Constructor<?> made = num.getDeclaredConstructor(int.class);
        made.setAccessible(true);
        Object it = made.newInstance(ROOM);
        write(it, x);
        return it;
    }

    private static Field field(Class<?> kind, String name) throws Exception {
        Field f = kind.getDeclaredField(name);
        f.setAccessible(true);
        return f;
    }

    private static void write(Object it, BigInteger x) throws Exception {
        int[] part = (int[]) field(num, "part").get(it);
        int size = (x.bitLength() + 31) / 32;
        for (int i = 0; i < size; i++) {
            part[i] = x.shiftRight(32 * i).intValue();
        }
        field(num, "size").setInt(it, size);
    }

    private static BigInteger outside(Object it) throws Exception {
        int[] part = (int[]) field(num, "part").get(it);
        BigInteger x = BigInteger.ZERO;
        for (int i = field(num, "size").getInt(it) - 1; i >= 0; i--) {
            x = x.shiftLeft(32).add(BigInteger.valueOf(part[i] & 0xFFFFFFFFL));
        }
        return x;
    }

    private static void same(String what, BigInteger got, BigInteger want) {
        if (!got.equals(want)) {
            wrong++;
            System.out.println(what + " came to " + got.toString(16) + ", due is " + want.toString(16));
        }
    }

    private static void checkDivision(BigInteger x, BigInteger y) throws Exception {
        BigInteger[] want = x.divideAndRemainder(y);
        String what = x.toString(16) + " by " + y.toString(16);
        same(what, outside(divide.invoke(divider, inside(x), inside(y))), want[0]);
        same("rest of " + what, outside(rest.get(divider)), want[1]);
    }

    private static void checkLowest(Random random, int round) throws Exception {
        BigInteger g = round % 3 == 0 ? odd(random, 1 + random.nextInt(20)) : new BigInteger(1 + random.nextInt(900), random);
        BigInteger above = g.multiply(round % 2 == 0 ? odd(random, random.nextInt(30)) : new BigInteger(random.nextInt(1100), random));
        BigInteger below = g.multiply(round % 5 == 0 ? odd(random, random.nextInt(30)) : new BigInteger(random.nextInt(1100), random));
        if (below.signum() == 0) {
            return;
        }
        Constructor<?> made = fraction.getDeclaredConstructor(int.class);
        made.setAccessible(true);
        Object it = made.newInstance(ROOM);
        write(field(fraction, "above").get(it), above);
        write(field(fraction, "below").get(it), below);
        lowest.invoke(divider, it);
        BigInteger common = above.gcd(below);
        same("above", outside(field(fraction, "above").get(it)), above.divide(common));
        same("below", outside(field(fraction, "below").get(it)), below.divide(common));
    }
}
