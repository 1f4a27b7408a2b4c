import java.math.BigInteger;

/** The boundary cases that 'What it is' and 'Terms' name, ahead of the promises: a test for each sentence. */
final class TermsBoundaries extends Checks {
    private TermsBoundaries() {
    }

    static void all() {
        zeroIsZeroByOne();
        lowestTerms();
        theLastCallHolds();
        aboveAndBelowOf1024Bits();
        neededBitsCountInLowestTerms();
        widestMoment();
        widestBound();
        placesFrom0To15();
        limbsAreAsManyAsItTakes();
        sixteenSources();
        totalOf256Bits();
        waysOutsideAreZero();
        zeroToThePowerOfZero();
        coinsRanges();
        drawnRanges();
        sumsRanges();
        sumsAtLeastOneWeight();
        sumsValues();
        sumsWhatLiesThereLater();
        bothOneTwice();
        bothTo120();
        heldRanges();
        heldBelowAndAbove();
        momentTwoAndFour();
        tailsFrom0To120();
        tailSideZero();
        tailSideOne();
        tailSideTwo();
        boundNotAboveTheMean();
        boundNotAboveOne();
        boundBases();
        boundFirstBase();
        coinAtFirst();
        goodFrom1To40();
        goodWidthNotBelow();
        goodNarrowOrOne();
        goodNotAboveTrust();
        lineAtFirst();
        crossedFromOneOn();
        crossedNotBelow();
        firstOfTheAnswers();
        nothingChanges();
    }

    // ---- fractions

    private static void zeroIsZeroByOne() {
        sentence("What it is", "ABOVE not below 0, BELOW above 0 (0 is 0 / 1).");
        TailBounds x = new TailBounds();
        due(x.set(0, 0, MAX), 1);
        x.coins(3, 0, 7);
        due(x.mean(1, 0), 1);
        due(x.moment(2, 0, 2), 1);
        due(x.moment(3, 0, 4), 1);
        due(x.tail(4, 0, 1, 0), 1);
        for (int kind = 0; kind < 4; kind++) {
            due(x.bound(5 + kind, 0, 1, kind), 1);
        }
        x.set(15, 7, 5);
        due(x.work(0, 9, 0, 1), 1);
        due(x.work(1, 10, 15, 0), 1);
        due(x.work(2, 11, 15, 0), 1);
        due(x.work(3, 12, 15, 0), 1);
        x.line(60, 0, 1);
        due(x.crossed(13, 0, 40), 1);
        for (int p = 0; p < 14; p++) {
            holds(x, p, 0, 1);
        }
    }

    private static void lowestTerms() {
        sentence("What it is", "FRACTIONS are ABOVE / BELOW, whole numbers in lowest terms");
        TailBounds x = new TailBounds();
        x.set(0, MAX, MAX);
        holds(x, 0, 1, 1);
        x.set(0, MAX - 1, MAX);
        holds(x, 0, MAX - 1, MAX);
        x.set(0, 2, MAX - 1);
        holds(x, 0, 1, MAX / 2);
        x.coins(4, 2, 4);
        x.mean(1, 0);
        holds(x, 1, 2, 1);
        x.moment(1, 0, 4);
        holds(x, 1, 5, 2);
        x.tail(1, 0, 4, 0);
        holds(x, 1, 1, 16);
        x.bound(1, 0, 3, 3);
        holds(x, 1, 1, 2);
        x.set(2, 1, 6);
        x.work(0, 3, 2, 2);
        holds(x, 3, 1, 3);
        x.set(4, 3, 1);
        x.work(1, 3, 2, 4);
        holds(x, 3, 1, 2);
        x.work(3, 3, 2, 0);
        holds(x, 3, 5, 6);
        x.coin(30, 60);
        x.crossed(3, 0, 2);
        holds(x, 3, 1, 2);
    }

    private static void theLastCallHolds() {
        sentence("What it is", "An object is used for at most 512 calls after it has been made");
        for (int kind = 0; kind < 6; kind++) {
            TailBounds x = new TailBounds();
            x.coins(40, 7, 60);
            x.set(0, 1, 3);
            for (int call = 3; call < CALLS; call++) {
                x.crossed(1 + call % 15, call % 3, 1 + call % 40);
            }
            due(lastCall(x, kind), new long[] {1, 333, 1, 40, 3, 1}[kind]);
            // what is answered from here on is free, but it must end and not throw
            for (int call = 0; call < 50; call++) {
                x.bound(1 + call % 15, 0, 40, call % 5);
            }
        }
    }

    private static long lastCall(TailBounds x, int kind) {
        switch (kind) {
            case 0: return x.coins(40, 1, 60);
            case 1: return x.digits(0, 3);
            case 2: return x.moment(0, 0, 4);
            case 3: return x.source(0, 1);
            case 4: return x.limb(0, 1, 0);
            default: return x.free(15);
        }
    }

    private static void aboveAndBelowOf1024Bits() {
        sentence("Terms", "One that needs more than 1024 bits above or below is too WIDE.");
        BigInteger most = BigInteger.TWO.pow(1024).subtract(BigInteger.ONE);
        BigInteger top = BigInteger.TWO.pow(1023);
        TailBounds x = new TailBounds();
        power(x, 0, 1022);
        due(x.work(0, 0, 0, 0), 1);
        holds(x, 0, top, BigInteger.ONE);
        x = new TailBounds();
        allOnes(x, 0, 1, 10);
        holds(x, 0, most, BigInteger.ONE);
        x = new TailBounds();
        inversePower(x, 0, 1, 1022);
        due(x.work(1, 0, 0, 1), 1);
        holds(x, 0, BigInteger.ONE, top);
        x = new TailBounds();
        inversePower(x, 0, 1, 1022);
        x.set(2, 1, 3);
        due(x.work(1, 0, 0, 2), 1);
        holds(x, 0, BigInteger.ONE, BigInteger.TWO.pow(1022).multiply(BigInteger.valueOf(3)));
        x = new TailBounds();
        inversePower(x, 0, 2, 1023);
        allOnes(x, 1, 2, 10);
        due(x.work(1, 2, 0, 1), 1);
        holds(x, 2, most, top);
        // 1 more, or a factor more, is too much
        refused(TermsBoundaries::widestAbove, WIDE, y -> y.work(0, 0, 0, 2), y -> y.work(0, 5, 0, 2), y -> y.work(0, 0, 0, 3),
            y -> y.work(0, 0, 0, 0), y -> y.work(1, 0, 0, 0), y -> y.work(1, 2, 0, 4));
        refused(TermsBoundaries::widestBelow, WIDE, y -> y.work(1, 0, 0, 1), y -> y.work(1, 5, 0, 1), y -> y.work(1, 0, 0, 2),
            y -> y.work(1, 0, 0, 0), y -> y.work(0, 0, 0, 2), y -> y.work(0, 5, 2, 0));
    }

    /** PLACE 0: 2^1024 - 1, which is all that 1024 bits can hold; 2: 1, 3: 1 / 3, 4: 2. */
    private static void widestAbove(TailBounds x) {
        allOnes(x, 0, 1, 10);
        x.set(2, 1, 1);
        x.set(3, 1, 3);
        x.set(4, 2, 1);
    }

    /** PLACE 0: 1 / 2^1023; 1: 1 / 2, 2: 1 / 3. */
    private static void widestBelow(TailBounds x) {
        inversePower(x, 0, 1, 1023);
        x.set(2, 1, 3);
    }

    private static void neededBitsCountInLowestTerms() {
        sentence("Terms", "One that needs more than 1024 bits above or below is too WIDE.");
        TailBounds x = new TailBounds();
        power(x, 0, 1023);
        inversePower(x, 1, 2, 1023);
        due(x.work(1, 3, 0, 1), 1);
        holds(x, 3, 1, 1);
        due(x.work(0, 3, 1, 1), 1);
        holds(x, 3, BigInteger.ONE, BigInteger.TWO.pow(1022));
        due(x.work(3, 4, 1, 0), 1);
        due(x.work(0, 4, 4, 1), 1);
        holds(x, 4, 1, 1);
        due(x.work(1, 5, 1, 2), WIDE);
        due(x.limbs(5, 0), NOTHING);
        // thrice 2^1022 has 1024 bits
        x.set(6, 3, 2);
        due(x.work(1, 5, 0, 6), 1);
        due(x.work(1, 7, 5, 2), 1);
        x.set(8, 1, 3);
        due(x.work(1, 7, 7, 8), 1);
        holds(x, 7, BigInteger.TWO.pow(1021), BigInteger.ONE);
        due(x.work(1, 5, 0, 2), 1);
        due(x.limbs(5, 0), 32);
        due(x.limb(5, 0, 31), 1L << 30);
    }

    private static void widestMoment() {
        sentence("Promise 13: moment", "A PLACE holds MOMENT 2, 4: 1. BAD; WIDE.");
        // its ABOVE has 1024 bits and its BELOW 1020
        TailBounds x = new TailBounds();
        wideMean(x, row(38, 44, 45), row(14, 9, 10), 1, 52);
        due(x.moment(0, 3, 4), 1);
        due(bits(x, 0, 0), 1024);
        due(bits(x, 0, 1), 1020);
        // here its BELOW is the one that has 1024
        x = new TailBounds();
        wideMean(x, row(4, 17, 35), row(40, 1, 59), 0, 1);
        due(x.moment(0, 3, 4), 1);
        due(bits(x, 0, 0), 1019);
        due(bits(x, 0, 1), 1024);
        // and here its ABOVE would have 1025, its BELOW 1022
        Setup wide = y -> {
            wideMean(y, row(34, 54, 55), row(17, 10, 11), 2, 50);
            y.set(0, 1, 3);
        };
        refused(wide, WIDE, y -> y.moment(0, 3, 4), y -> y.moment(1, 3, 4));
        x = new TailBounds();
        wide.on(x);
        due(x.moment(0, 3, 2), 1);
        due(x.moment(0, 2, 4), 1);
    }

    private static void widestBound() {
        sentence("Promise 15: bound", "A PLACE holds a BOUND: 1. BAD; WIDE.");
        Setup wide = y -> {
            wideMean(y, row(25, 40, 41), row(21, 1, 47), 23, 26);
            y.bound(0, 3, 64, 4);
        };
        // of KIND 2 at 64 the BELOW has 1024 bits, at 70 it would have 1025
        TailBounds x = new TailBounds();
        wide.on(x);
        due(x.bound(0, 3, 64, 2), 1);
        due(bits(x, 0, 0), 1003);
        due(bits(x, 0, 1), 1024);
        refused(wide, WIDE, y -> y.bound(0, 3, 70, 2), y -> y.bound(1, 3, 70, 2));
        for (int kind = 0; kind < 5; kind++) {
            due(x.bound(1, 3, 70, kind), kind == 2 ? WIDE : 1);
        }
        // 1 is never too wide: k is not above the MEAN, or what is due would be above 1
        due(x.bound(2, 3, 23, 2), 1);
        holds(x, 2, 1, 1);
        x = new TailBounds();
        wideMean(x, row(34, 54, 55), row(17, 10, 11), 2, 50);
        due(x.moment(0, 3, 4), WIDE);
        due(x.mean(0, 3), 1);
        due(x.bound(1, 3, (int) x.digits(0, 0) + 1, 2), 1);
        holds(x, 1, 1, 1);
    }

    private static void placesFrom0To15() {
        sentence("Terms", "PLACES 0 .. 15 hold one each, or nothing (at first).");
        TailBounds x = new TailBounds();
        for (int p = 0; p < 16; p++) {
            due(x.limbs(p, 0), NOTHING);
            due(x.set(p, p, 7), 1);
            due(x.count(2), p + 1);
        }
        for (int p = 0; p < 16; p++) {
            share(x, p, p, 7);
        }
        for (int p : new int[] {-1, 16, MIN, MAX}) {
            refused(Checks::some, BAD, y -> y.set(p, 1, 2), y -> y.mean(p, 0), y -> y.moment(p, 0, 2), y -> y.tail(p, 0, 1, 0),
                y -> y.bound(p, 0, 3, 4), y -> y.work(0, p, 0, 7), y -> y.work(0, 0, p, 7), y -> y.work(0, 0, 7, p), y -> y.work(3, p, 0, 0),
                y -> y.work(3, 0, p, 0), y -> y.order(p, 0), y -> y.order(0, p), y -> y.limbs(p, 0), y -> y.limb(p, 0, 0), y -> y.digits(p, 0),
                y -> y.free(p), y -> y.crossed(p, 0, 1));
        }
    }

    private static void limbsAreAsManyAsItTakes() {
        sentence("Terms", "The LIMBS of a number are its parts of 32 bits, the lowest first, as many as it takes (0 has none).");
        TailBounds x = new TailBounds();
        x.set(0, 0, 5);
        due(x.limbs(0, 0), 0);
        due(x.limb(0, 0, 0), NONE);
        allOnes(x, 1, 2, 5);
        holds(x, 1, 4294967295L, 1);
        x.set(2, 1, 1);
        x.work(0, 3, 1, 2);
        due(x.limbs(3, 0), 2);
        due(x.limb(3, 0, 0), 0);
        due(x.limb(3, 0, 1), 1);
        inversePower(x, 4, 5, 31);
        due(x.limbs(4, 1), 1);
        due(x.limb(4, 1, 0), 2147483648L);
        x.work(1, 4, 4, 5);
        due(x.limbs(4, 1), 2);
        due(x.limb(4, 1, 0), 0);
        due(x.limb(4, 1, 1), 1);
        allOnes(x, 6, 7, 10);
        due(x.limbs(6, 0), 32);
        for (int i = 0; i < 32; i++) {
            due(x.limb(6, 0, i), 4294967295L);
        }
        due(x.limb(6, 0, 32), NONE);
    }

    // ---- sources

    private static void sixteenSources() {
        sentence("Terms", "SOURCES, 16 at most, numbered from 0 on as they come");
        TailBounds x = new TailBounds();
        x.weight(1);
        x.weight(1);
        for (int s = 0; s < 15; s += 5) {
            due(x.coins(2, 1, 2), s);
            due(x.drawn(2, 1, 1), s + 1);
            due(x.sums(1), s + 2);
            due(x.both(s, s + 1), s + 3);
            // a refused one takes no number
            due(x.coins(41, 1, 2), BAD);
            due(x.held(s, 1, 1), s + 4);
        }
        due(x.both(0, 14), 15);
        due(x.count(0), 16);
        due(x.source(15, 0), 3);
        refused(Checks::allSources, FULL, y -> y.coins(2, 1, 2), y -> y.drawn(2, 1, 1), y -> y.sums(1), y -> y.both(0, 0), y -> y.held(0, 1, 1));
        for (int s : new int[] {-1, 5, 15, 16, MIN, MAX}) {
            refused(Checks::some, BAD, y -> y.both(s, 0), y -> y.both(0, s), y -> y.held(s, 0, 0), y -> y.source(s, 0), y -> y.counted(s, 0),
                y -> y.mean(0, s), y -> y.moment(0, s, 2), y -> y.tail(0, s, 1, 0), y -> y.bound(0, s, 1, 0));
        }
    }

    private static void totalOf256Bits() {
        sentence("Terms", "the TOTAL is the sum of all COUNTS, above 0 (more than 256 bits: WIDE)");
        TailBounds x = new TailBounds();
        wideTotal(x);
        due(x.source(2, 2), 256);
        due(x.both(2, 4), 5);
        due(x.source(5, 2), 256);
        due(x.held(2, 3, 50), 6);
        due(x.source(6, 2), 256);
        // 59^40 times 35^4 lies right below 2^256
        due(x.coins(40, 1, 59), 7);
        due(x.coins(4, 17, 35), 8);
        due(x.both(7, 8), 9);
        due(x.source(9, 2), 256);
        refused(Checks::wideTotal, WIDE, y -> y.both(2, 3), y -> y.both(3, 2), y -> y.both(2, 1), y -> y.both(0, 0));
        // the least TOTAL is 1
        due(x.source(4, 2), 1);
        due(x.tail(0, 2, 0, 0), 1);
        holds(x, 0, 1, 1);
    }

    private static void waysOutsideAreZero() {
        sentence("Terms", "C(n, k) is in how many ways k of n can be taken (0, if k is not 0 .. n)");
        TailBounds x = new TailBounds();
        x.drawn(4, 0, 2);
        counts(x, 0, 6, 0, 0);
        x.drawn(4, 4, 2);
        counts(x, 1, 0, 0, 6);
        x.drawn(4, 1, 3);
        counts(x, 2, 1, 3, 0, 0);
        x.drawn(4, 3, 3);
        counts(x, 3, 0, 0, 3, 1);
        x.drawn(4, 2, 4);
        counts(x, 4, 0, 0, 1, 0, 0);
        x.drawn(4, 2, 0);
        counts(x, 5, 1);
        x.drawn(60, 1, 60);
        due(x.source(6, 3), 60);
        x.drawn(60, 59, 59);
        due(x.source(7, 3), 58);
    }

    private static void zeroToThePowerOfZero() {
        sentence("Terms", "0 to the power of 0 is 1");
        TailBounds x = new TailBounds();
        x.coins(2, 0, 3);
        counts(x, 0, 9, 0, 0);
        x.coins(2, 3, 3);
        counts(x, 1, 0, 0, 9);
        x.coins(0, 0, 3);
        counts(x, 2, 1);
        x.coins(0, 3, 3);
        counts(x, 3, 1);
        x.coins(0, 0, 1);
        counts(x, 4, 1);
        x.coins(1, 1, 1);
        counts(x, 5, 0, 1);
    }

    private static void coinsRanges() {
        sentence("Terms", "0 COINS n (0 .. 40), a, b (b 1 .. 60, a 0 .. b): VALUES to n: C(n, k) a^k (b - a)^(n - k); TOTAL b^n.");
        TailBounds x = new TailBounds();
        due(x.coins(0, 1, 2), 0);
        counts(x, 0, 1);
        due(x.coins(40, 1, 60), 1);
        due(x.source(1, 1), 40);
        due(x.source(1, 2), BigInteger.valueOf(60).pow(40).bitLength());
        due(x.tail(0, 1, 40, 0), 1);
        holds(x, 0, BigInteger.ONE, BigInteger.valueOf(60).pow(40));
        due(x.tail(0, 1, 0, 1), 1);
        holds(x, 0, BigInteger.valueOf(59).pow(40), BigInteger.valueOf(60).pow(40));
        due(x.coins(1, 0, 1), 2);
        counts(x, 2, 1, 0);
        due(x.coins(1, 1, 1), 3);
        counts(x, 3, 0, 1);
        due(x.coins(1, 0, 60), 4);
        counts(x, 4, 60, 0);
        due(x.coins(1, 60, 60), 5);
        counts(x, 5, 0, 60);
        refused(Checks::some, BAD, y -> y.coins(-1, 1, 2), y -> y.coins(41, 1, 2), y -> y.coins(MIN, 1, 2), y -> y.coins(MAX, 1, 2));
        refused(Checks::some, BAD, y -> y.coins(1, 0, 0), y -> y.coins(1, 0, 61), y -> y.coins(1, 0, -1), y -> y.coins(1, 0, MIN), y -> y.coins(1, 0, MAX));
        refused(Checks::some, BAD, y -> y.coins(1, -1, 2), y -> y.coins(1, 3, 2), y -> y.coins(1, 61, 60), y -> y.coins(1, MIN, 60), y -> y.coins(1, MAX, 60));
        refused(Checks::some, BAD, y -> y.coins(0, 2, 1), y -> y.coins(0, 1, 0), y -> y.coins(0, -1, -1), y -> y.coins(MAX, MAX, MAX));
    }

    private static void drawnRanges() {
        sentence("Terms", "1 DRAWN all (1 .. 60), good, n (both 0 .. all): VALUES to n: C(good, k) C(all - good, n - k).");
        TailBounds x = new TailBounds();
        due(x.drawn(1, 0, 0), 0);
        counts(x, 0, 1);
        due(x.drawn(1, 1, 1), 1);
        counts(x, 1, 0, 1);
        due(x.drawn(1, 0, 1), 2);
        counts(x, 2, 1, 0);
        due(x.drawn(60, 60, 60), 3);
        due(x.source(3, 1), 60);
        due(x.source(3, 2), 1);
        due(x.source(3, 3), 60);
        due(x.drawn(60, 0, 60), 4);
        due(x.mean(0, 4), 1);
        holds(x, 0, 0, 1);
        due(x.drawn(60, 30, 30), 5);
        due(x.source(5, 2), 57);
        due(x.source(5, 3), 0);
        due(x.tail(0, 5, 30, 0), 1);
        holds(x, 0, 1, 118264581564861424L);
        refused(Checks::some, BAD, y -> y.drawn(0, 0, 0), y -> y.drawn(-1, 0, 0), y -> y.drawn(61, 1, 1), y -> y.drawn(MIN, 0, 0), y -> y.drawn(MAX, 1, 1));
        refused(Checks::some, BAD, y -> y.drawn(5, -1, 1), y -> y.drawn(5, 6, 1), y -> y.drawn(60, 61, 1), y -> y.drawn(5, MIN, 1), y -> y.drawn(5, MAX, 1));
        refused(Checks::some, BAD, y -> y.drawn(5, 1, -1), y -> y.drawn(5, 1, 6), y -> y.drawn(60, 1, 61), y -> y.drawn(5, 1, MIN), y -> y.drawn(5, 1, MAX));
    }

    private static void sumsRanges() {
        sentence("Terms", "2 SUMS n (0 .. 12) of the WEIGHTS");
        TailBounds x = new TailBounds();
        x.weight(2);
        x.weight(3);
        due(x.sums(0), 0);
        counts(x, 0, 1);
        due(x.sums(1), 1);
        counts(x, 1, 2, 3);
        due(x.sums(12), 2);
        due(x.source(2, 1), 12);
        due(x.tail(0, 2, 12, 0), 1);
        holds(x, 0, 531441, 244140625);
        refused(Checks::some, BAD, y -> y.sums(-1), y -> y.sums(13), y -> y.sums(MIN), y -> y.sums(MAX));
    }

    private static void sumsAtLeastOneWeight() {
        sentence("Terms", "that lie there (one at least, not all 0)");
        refused(y -> y.coins(1, 1, 2), BAD, y -> y.sums(0), y -> y.sums(1), y -> y.sums(12));
        refused(y -> y.weight(0), BAD, y -> y.sums(0), y -> y.sums(1), y -> y.sums(12));
        refused(y -> {
            for (int i = 0; i < 8; i++) {
                y.weight(0);
            }
        }, BAD, y -> y.sums(0), y -> y.sums(1), y -> y.sums(12));
        TailBounds x = new TailBounds();
        x.weight(1);
        due(x.sums(1), 0);
        counts(x, 0, 1);
        x.wipe();
        for (int i = 0; i < 8; i++) {
            x.weight(i == 7 ? 1 : 0);
        }
        due(x.sums(1), 1);
        counts(x, 1, 0, 0, 0, 0, 0, 0, 0, 1);
        due(x.sums(0), 2);
        counts(x, 2, 1);
    }

    private static void sumsValues() {
        sentence("Terms", "VALUES to n times (how many WEIGHTS, less 1)");
        TailBounds x = new TailBounds();
        x.weight(1000);
        due(x.sums(12), 0);
        due(x.source(0, 1), 0);
        due(x.source(0, 2), BigInteger.valueOf(1000).pow(12).bitLength());
        // a 0 behind the others makes room for VALUES all the same
        x.weight(0);
        due(x.sums(12), 1);
        due(x.source(1, 1), 12);
        due(x.source(1, 3), 12);
        for (int i = 2; i < 8; i++) {
            x.weight(1000);
        }
        due(x.sums(12), 2);
        due(x.source(2, 1), 84);
        due(x.sums(1), 3);
        due(x.source(3, 1), 7);
        due(x.sums(0), 4);
        due(x.source(4, 1), 0);
    }

    private static void sumsWhatLiesThereLater() {
        sentence("Terms", "(What lies there later does not matter.)");
        TailBounds x = new TailBounds();
        x.weight(1);
        x.weight(2);
        x.sums(2);
        x.weight(5);
        counts(x, 0, 1, 4, 4);
        due(x.counted(0, 1), 8);
        x.wipe();
        counts(x, 0, 1, 4, 4);
        x.weight(7);
        counts(x, 0, 1, 4, 4);
        due(x.counted(0, 1), 8);
    }

    private static void bothOneTwice() {
        sentence("Terms", "3 BOTH x, y, two SOURCES (perhaps one twice)");
        TailBounds x = new TailBounds();
        x.coins(1, 1, 3);
        due(x.both(0, 0), 1);
        counts(x, 1, 4, 4, 1);
        due(x.both(1, 0), 2);
        counts(x, 2, 8, 12, 6, 1);
        due(x.both(0, 1), 3);
        counts(x, 3, 8, 12, 6, 1);
        x.coins(0, 0, 1);
        due(x.both(4, 4), 5);
        counts(x, 5, 1);
    }

    private static void bothTo120() {
        sentence("Terms", "VALUES to the sum of both M (120 at most)");
        Setup long120 = y -> {
            y.drawn(60, 30, 60);
            y.drawn(1, 1, 1);
            y.drawn(1, 1, 0);
            y.both(0, 0);
        };
        TailBounds x = new TailBounds();
        long120.on(x);
        due(x.source(3, 1), 120);
        due(x.source(3, 3), 120);
        due(x.tail(0, 3, 60, 0), 1);
        holds(x, 0, 1, 1);
        due(x.tail(0, 3, 61, 0), 1);
        holds(x, 0, 0, 1);
        due(x.both(3, 2), 4);
        due(x.source(4, 1), 120);
        due(x.both(2, 3), 5);
        due(x.source(5, 1), 120);
        refused(long120, BAD, y -> y.both(3, 1), y -> y.both(1, 3), y -> y.both(3, 3), y -> y.both(3, 0));
    }

    private static void heldRanges() {
        sentence("Terms", "4 HELD x, lo, hi (0 .. M of x, lo not above hi): VALUES to the M of x");
        TailBounds x = new TailBounds();
        x.coins(2, 1, 2);
        due(x.held(0, 0, 0), 1);
        counts(x, 1, 4, 0, 0);
        due(x.held(0, 2, 2), 2);
        counts(x, 2, 0, 0, 4);
        due(x.held(0, 0, 2), 3);
        counts(x, 3, 1, 2, 1);
        due(x.held(0, 1, 1), 4);
        counts(x, 4, 0, 4, 0);
        x.coins(0, 1, 2);
        due(x.held(5, 0, 0), 6);
        counts(x, 6, 1);
        // SOURCE 0 of some() has VALUES to 4
        refused(Checks::some, BAD, y -> y.held(0, -1, 4), y -> y.held(0, -1, -1), y -> y.held(0, 0, 5), y -> y.held(0, 5, 5), y -> y.held(0, 2, 1),
            y -> y.held(0, 4, 3), y -> y.held(0, 1, 0), y -> y.held(0, MIN, 4), y -> y.held(0, 0, MAX), y -> y.held(0, MIN, MAX), y -> y.held(0, MAX, MIN));
    }

    private static void heldBelowAndAbove() {
        sentence("Terms", "those below lo count as lo, those above hi as hi");
        TailBounds x = new TailBounds();
        x.coins(4, 1, 2);
        x.held(0, 1, 3);
        counts(x, 1, 0, 5, 6, 5, 0);
        x.held(0, 1, 4);
        counts(x, 2, 0, 5, 6, 4, 1);
        x.held(0, 0, 3);
        counts(x, 3, 1, 4, 6, 5, 0);
        x.held(0, 3, 4);
        counts(x, 4, 0, 0, 0, 15, 1);
        x.held(0, 0, 1);
        counts(x, 5, 1, 15, 0, 0, 0);
        x.held(1, 2, 2);
        counts(x, 6, 0, 0, 16, 0, 0);
    }

    // ---- means, moments, tails

    private static void momentTwoAndFour() {
        sentence("Terms", "MOMENT n (2, 4) that of |v - MEAN|^n times COUNT.");
        TailBounds x = new TailBounds();
        x.coins(1, 1, 3);
        due(x.moment(0, 0, 2), 1);
        holds(x, 0, 2, 9);
        due(x.moment(0, 0, 4), 1);
        // (2 / 3)^4 / 3 and 2 (1 / 3)^4 / 3
        holds(x, 0, 2, 27);
        refused(Checks::some, BAD, y -> y.moment(0, 0, 1), y -> y.moment(0, 0, 3), y -> y.moment(0, 0, 5), y -> y.moment(0, 0, 0), y -> y.moment(0, 0, 6),
            y -> y.moment(0, 0, -2), y -> y.moment(0, 0, -4), y -> y.moment(0, 0, MIN), y -> y.moment(0, 0, MAX));
    }

    private static void tailsFrom0To120() {
        sentence("Terms", "TAILS at k (0 .. 120)");
        TailBounds x = new TailBounds();
        x.coins(2, 1, 2);
        for (int side = 0; side < 3; side++) {
            due(x.tail(0, 0, 0, side), 1);
            share(x, 0, new long[] {4, 1, 2}[side], 4);
            due(x.tail(0, 0, 120, side), 1);
            holds(x, 0, side == 1 ? 1 : 0, 1);
        }
        refused(Checks::some, BAD, y -> y.tail(0, 0, -1, 0), y -> y.tail(0, 0, 121, 0), y -> y.tail(0, 0, -1, 1), y -> y.tail(0, 0, 121, 1),
            y -> y.tail(0, 0, -1, 2), y -> y.tail(0, 0, 121, 2), y -> y.tail(0, 0, MIN, 0), y -> y.tail(0, 0, MAX, 2));
        refused(Checks::some, BAD, y -> y.tail(0, 0, 1, -1), y -> y.tail(0, 0, 1, 3), y -> y.tail(0, 0, 1, MIN), y -> y.tail(0, 0, 1, MAX));
    }

    private static void tailSideZero() {
        sentence("Terms", "SIDE 0: the share of the COUNTS of k and more in the TOTAL");
        tailsOfFour(0, 16, 15, 11, 5, 1, 0, 0);
    }

    private static void tailSideOne() {
        sentence("Terms", "1: of k and less");
        tailsOfFour(1, 1, 5, 11, 15, 16, 16, 16);
    }

    private static void tailsOfFour(int side, long... sixteenths) {
        TailBounds x = new TailBounds();
        x.coins(4, 1, 2);
        for (int k = 0; k < sixteenths.length; k++) {
            due(x.tail(0, 0, k, side), 1);
            share(x, 0, sixteenths[k], 16);
        }
    }

    private static void tailSideTwo() {
        sentence("Terms", "2: of all v with |v - MEAN| not below |k - MEAN|.");
        // the MEAN is 2: what is as far on the other side counts, and at the MEAN all do
        tailsOfFour(2, 2, 10, 16, 10, 2, 0, 0);
        // the MEAN is 3 / 2: 1 and 2 are alike near, 0 and 3 alike far
        TailBounds x = new TailBounds();
        x.coins(3, 1, 2);
        long[] eighths = {2, 8, 8, 2, 0};
        for (int k = 0; k < eighths.length; k++) {
            due(x.tail(0, 0, k, 2), 1);
            share(x, 0, eighths[k], 8);
        }
        // the MEAN is 4 / 3: 1 lies a little nearer than 2, 0 than 3
        x.coins(4, 1, 3);
        long[] of81 = {25, 81, 49, 9, 1, 0};
        for (int k = 0; k < of81.length; k++) {
            due(x.tail(0, 1, k, 2), 1);
            share(x, 0, of81[k], 81);
        }
        // a sure VALUE: only at itself
        x.coins(5, 1, 1);
        for (int k = 3; k < 8; k++) {
            due(x.tail(0, 2, k, 2), 1);
            holds(x, 0, k == 5 ? 1 : 0, 1);
        }
    }

    // ---- bounds

    private static void boundNotAboveTheMean() {
        sentence("Terms", "If k is not above the MEAN: 1.");
        TailBounds x = new TailBounds();
        x.coins(4, 1, 2);
        x.coins(3, 0, 5);
        x.coins(4, 1, 3);
        for (int kind = 0; kind < 5; kind++) {
            for (int k = 0; k < 3; k++) {
                due(x.bound(0, 0, k, kind), 1);
                holds(x, 0, 1, 1);
            }
            due(x.bound(0, 0, 4, kind), 1);
            due(x.order(0, 0), 1);
            due(x.digits(0, 0), 0);
            // the MEAN is 0, and so is k
            due(x.bound(0, 1, 0, kind), 1);
            holds(x, 0, 1, 1);
            // the MEAN is 4 / 3: 1 is below it, and 2 above
            due(x.bound(0, 2, 1, kind), 1);
            holds(x, 0, 1, 1);
        }
        due(x.bound(0, 2, 2, 0), 1);
        holds(x, 0, 2, 3);
        due(x.bound(0, 1, 1, 0), 1);
        holds(x, 0, 0, 1);
    }

    private static void boundNotAboveOne() {
        sentence("Terms", "Else, where that is not above 1 (else 1): KIND 0: MEAN / k.");
        TailBounds x = new TailBounds();
        x.coins(4, 1, 2);
        // MOMENT 2 is 1, so KIND 1 comes to just 1 at 3; MOMENT 4 is 5 / 2, so KIND 2 would be above it
        due(x.bound(0, 0, 3, 1), 1);
        holds(x, 0, 1, 1);
        due(x.bound(0, 0, 3, 2), 1);
        holds(x, 0, 1, 1);
        due(x.bound(0, 0, 4, 1), 1);
        holds(x, 0, 1, 4);
        due(x.bound(0, 0, 4, 2), 1);
        holds(x, 0, 5, 32);
        due(x.bound(0, 0, 3, 0), 1);
        holds(x, 0, 2, 3);
        due(x.bound(0, 0, 3, 3), 1);
        holds(x, 0, 1, 2);
        due(x.bound(0, 0, 3, 4), 1);
        holds(x, 0, 16, 27);
        // 1.125^40 / 1.25^21 is above 1, 1.125^40 / 1.25^22 is below
        x.coins(40, 1, 2);
        due(x.bound(0, 1, 21, 4), 1);
        holds(x, 0, 1, 1);
        due(x.bound(0, 1, 22, 4), 1);
        due(x.digits(0, 6), 820503);
        // the MEAN is 118 / 3 and MOMENT 2 is 59 / 90, so KIND 1 would be above 1
        x.coins(40, 59, 60);
        due(x.bound(0, 2, 40, 1), 1);
        holds(x, 0, 1, 1);
        due(x.bound(0, 2, 40, 3), 1);
        holds(x, 0, 59, 99);
    }

    private static void boundBases() {
        sentence("Terms", "4: for t = j / 4, j from 5 to 12");
        TailBounds x = new TailBounds();
        // only 0 comes, so t^-k falls on and on: 12 is the last
        x.coins(1, 0, 1);
        due(x.bound(0, 0, 1, 4), 1);
        holds(x, 0, 1, 3);
        due(x.base(), 12);
        due(x.bound(0, 0, 120, 4), 1);
        holds(x, 0, BigInteger.ONE, BigInteger.valueOf(3).pow(120));
        due(x.base(), 12);
        // right above the MEAN 5 is the least: (3 / 5 + 2 / 5 (5 / 4)^2) by 5 / 4
        x.weight(3);
        x.weight(0);
        x.weight(2);
        due(x.sums(1), 1);
        due(x.bound(0, 1, 1, 4), 1);
        holds(x, 0, 49, 50);
        due(x.base(), 5);
        basesInBetween();
    }

    /** (a / t + c t) / (a + c) is least where t^2 is a / c; with a / c = (j / 4)^2 that is j itself. */
    private static void basesInBetween() {
        for (int j = 5; j <= 12; j++) {
            TailBounds x = new TailBounds();
            x.weight(j * j);
            x.weight(0);
            x.weight(16);
            due(x.sums(1), 0);
            due(x.bound(0, 0, 1, 4), 1);
            share(x, 0, 8L * j, j * j + 16);
            due(x.base(), j);
        }
        // where 4 or 16 would be the least, it is 5 or 12 that is
        leastBase(17, 5);
        leastBase(256, 12);
    }

    private static void leastBase(int weight, int base) {
        TailBounds x = new TailBounds();
        x.weight(weight);
        x.weight(0);
        x.weight(16);
        due(x.sums(1), 0);
        due(x.bound(0, 0, 1, 4), 1);
        due(x.base(), base);
    }

    private static void boundFirstBase() {
        sentence("Terms", "the least of these; the first j of it is its BASE.");
        // (a / t + c t) / (a + c) is alike at two t, if a / c is their product
        for (int j = 5; j < 12; j++) {
            TailBounds x = new TailBounds();
            x.weight(j * (j + 1));
            x.weight(0);
            x.weight(16);
            due(x.sums(1), 0);
            due(x.bound(0, 0, 1, 4), 1);
            share(x, 0, 4L * (2 * j + 1), j * (j + 1) + 16);
            due(x.base(), j);
        }
    }

    // ---- the coin and the line

    private static void coinAtFirst() {
        sentence("Terms", "THE COIN has odds a / b (1 / 2 at first).");
        TailBounds x = new TailBounds();
        due(x.crossed(0, 0, 1), 1);
        holds(x, 0, 1, 2);
        due(x.needed(1, 50, 1, 1, 0), 1);
        due(x.needed(1, 50, 1, 2, 0), 2);
        due(x.needed(0, 50, 1, 1024, 0), 11);
        TailBounds y = new TailBounds();
        y.coin(1, 2);
        due(y.needed(0, 13, 1, 4, 1), x.needed(0, 13, 1, 4, 1));
    }

    private static void goodFrom1To40() {
        sentence("Terms", "NEEDED for a width w / 100 and a trust u / v: n (1 .. 40) is GOOD");
        TailBounds x = new TailBounds();
        // 1 / n for a width of 1 / 2
        due(x.needed(1, 50, 1, 1, 0), 1);
        due(x.needed(1, 50, 1, 39, 0), 39);
        due(x.needed(1, 50, 1, 40, 0), 40);
        due(x.needed(1, 50, 1, 40, 1), 40);
        due(x.needed(1, 50, 1, 41, 0), NONE);
        due(x.needed(1, 50, 1, 41, 1), NONE);
        // 2 of 2^n rows are 1 / 2 away
        due(x.needed(0, 50, 1, 524288, 0), 20);
        due(x.needed(0, 50, 1, 524289, 0), 21);
        due(x.needed(0, 50, 1, 1000000, 0), 21);
        x.coin(59, 60);
        // 0 of n is 0.983.. away
        due(x.needed(0, 99, 0, 1, 0), 1);
        due(x.needed(0, 98, 0, 1, 0), NONE);
    }

    private static void goodWidthNotBelow() {
        sentence("Terms", "the share of all k of COINS n, a, b with |k / n - a / b| not below w / 100");
        TailBounds x = new TailBounds();
        // k = 0 and k = n lie just 50 / 100 away
        due(x.needed(0, 50, 0, 1, 0), NONE);
        due(x.needed(0, 51, 0, 1, 0), 1);
        due(x.needed(0, 51, 0, 1, 1), 1);
        due(x.needed(0, 50, 1, 2, 0), 2);
        due(x.needed(0, 50, 1, 2, 1), 2);
        // k = 0 and k = n lie 20 / 100 and 80 / 100 away
        x.coin(1, 5);
        due(x.needed(0, 80, 1, 5, 0), 1);
        due(x.needed(0, 80, 1, 1000000, 0), 9);
        due(x.needed(0, 81, 0, 1, 0), 1);
        due(x.needed(0, 21, 1, 5, 0), 1);
        // all k of 1 and of 2 are as far as 20 / 100, of 3 all but 1
        due(x.needed(0, 20, 999999, 1000000, 0), 3);
        // of 4 and of 5 all but 1 as well: 1 less 256 / 625
        due(x.needed(0, 20, 369, 625, 0), 4);
        due(x.needed(0, 20, 368, 625, 0), 6);
    }

    private static void goodNarrowOrOne() {
        sentence("Terms", "HOW 1: a (b - a) / (n b^2) by (w / 100)^2, or 1, if that is more");
        TailBounds x = new TailBounds();
        // 2500 / n for a width of 1 / 100, so 1 for all n
        due(x.needed(1, 1, 1, 1, 0), 1);
        due(x.needed(1, 1, 1, 1, 1), 1);
        due(x.needed(1, 1, 1000000, 999999, 0), 1);
        due(x.needed(1, 1, 999999, 1000000, 0), NONE);
        // 4 / n for a width of 1 / 4: just 1 at 4
        due(x.needed(1, 25, 999999, 1000000, 0), 5);
        due(x.needed(1, 25, 4, 5, 0), 5);
        due(x.needed(1, 25, 1, 1, 0), 1);
        x.coin(0, 60);
        due(x.needed(1, 1, 0, 1, 0), 1);
        x.coin(60, 60);
        due(x.needed(1, 1, 0, 1000000, 1), 1);
        // 59 / 3600 by 1
        x.coin(1, 60);
        due(x.needed(1, 100, 59, 3600, 0), 1);
        due(x.needed(1, 100, 59, 3601, 0), 2);
        due(x.needed(1, 100, 0, 1, 0), NONE);
    }

    private static void goodNotAboveTrust() {
        sentence("Terms", "is not above u / v.");
        TailBounds x = new TailBounds();
        // 2^-10 at 11
        due(x.needed(0, 50, 1, 1024, 0), 11);
        due(x.needed(0, 50, 1, 1025, 0), 12);
        due(x.needed(0, 50, 1, 1023, 0), 11);
        due(x.needed(0, 50, 1, 1024, 1), 11);
        due(x.needed(0, 50, 0, 1024, 1), NONE);
        due(x.needed(1, 50, 10, 100, 0), 10);
        due(x.needed(1, 50, 10, 101, 0), 11);
        due(x.needed(1, 50, 10, 99, 0), 10);
        due(x.needed(1, 50, 100000, 1000000, 1), 10);
        due(x.needed(1, 50, 99999, 1000000, 1), 11);
    }

    private static void lineAtFirst() {
        sentence("Terms", "THE LINE is c + d i / e (0, 1, 1 at first).");
        TailBounds x = new TailBounds();
        due(x.crossed(0, 0, 3), 1);
        holds(x, 0, 1, 2);
        due(x.crossed(0, 1, 3), 1);
        holds(x, 0, 0, 1);
        due(x.crossed(0, 2, 3), 1);
        holds(x, 0, 7, 8);
        x.coin(1, 1);
        due(x.crossed(0, 1, 1), 1);
        holds(x, 0, 1, 1);
    }

    private static void crossedFromOneOn() {
        sentence("Terms", "the LINE is CROSSED at i (1 and more)");
        TailBounds x = new TailBounds();
        // 0 would be there before the first throw, but that does not count
        x.line(0, 0, 1);
        due(x.crossed(0, 1, 1), 1);
        holds(x, 0, 1, 1);
        due(x.crossed(0, 1, 2), 1);
        holds(x, 0, 0, 1);
        due(x.crossed(0, 2, 1), 1);
        holds(x, 0, 1, 1);
        x.coin(0, 1);
        x.line(0, 1, 60);
        due(x.crossed(0, 0, 40), 1);
        holds(x, 0, 0, 1);
        due(x.crossed(0, 2, 40), 1);
        holds(x, 0, 0, 1);
    }

    private static void crossedNotBelow() {
        sentence("Terms", "if h is not below c + d i / e.");
        TailBounds x = new TailBounds();
        x.coin(1, 1);
        // h is i: 1 + i / 2 is reached at 2 just so, 1 + i 2 / 3 at 3, 1 + i 59 / 60 at 60 only
        x.line(1, 1, 2);
        firstCrossedAt(x, 2);
        x.line(1, 2, 3);
        firstCrossedAt(x, 3);
        x.line(1, 38, 40);
        firstCrossedAt(x, 20);
        x.line(1, 39, 40);
        firstCrossedAt(x, 40);
        x.line(1, 40, 41);
        firstCrossedAt(x, 41);
        x.line(1, 59, 60);
        firstCrossedAt(x, 41);
        // between two whole numbers it is the next one: 1 + 1 / 3, 1 + 2 / 3, 2
        x.coin(1, 2);
        x.line(1, 1, 3);
        due(x.crossed(0, 1, 1), 1);
        holds(x, 0, 0, 1);
        due(x.crossed(0, 1, 2), 1);
        holds(x, 0, 1, 4);
        due(x.crossed(0, 1, 3), 1);
        holds(x, 0, 1, 4);
    }

    /** For a coin that always comes to a; 41 stands for never. */
    private static void firstCrossedAt(TailBounds x, int i) {
        for (int n = Math.max(1, i - 1); n <= Math.min(i + 1, 40); n++) {
            due(x.crossed(0, 1, n), 1);
            holds(x, 0, n == i ? 1 : 0, 1);
            due(x.crossed(0, 0, n), 1);
            holds(x, 0, n >= i ? 1 : 0, 1);
        }
    }

    // ---- answers below 0

    private static void firstOfTheAnswers() {
        sentence("Terms", "Answers below 0, the first that is so: BAD: a number is not as told; NOTHING: a PLACE that is asked holds nothing; FULL; WIDE");
        // BAD ahead of NOTHING: PLACE 1 of some() is empty
        refused(Checks::some, BAD, y -> y.work(4, 0, 1, 1), y -> y.work(0, 16, 1, 1), y -> y.work(0, 0, 1, 16), y -> y.work(0, 0, 16, 1),
            y -> y.work(3, 16, 1, 0), y -> y.order(1, 16), y -> y.order(16, 1), y -> y.limbs(1, 2), y -> y.limb(1, 2, 0), y -> y.digits(1, 19));
        // BAD ahead of FULL
        refused(Checks::allSources, BAD, y -> y.coins(41, 1, 2), y -> y.drawn(0, 0, 0), y -> y.sums(13), y -> y.both(0, 16), y -> y.held(0, 1, 0));
        refused(Checks::allWeights, BAD, y -> y.weight(-1), y -> y.weight(1001));
        Setup fullWithoutWeights = y -> {
            allSources(y);
            y.wipe();
        };
        refused(fullWithoutWeights, BAD, y -> y.sums(1));
        // BAD ahead of WIDE: VALUES to 160, and 401 bits
        Setup longAndWide = y -> {
            y.coins(40, 1, 16);
            y.coins(40, 1, 2);
            y.both(0, 1);
            y.both(2, 1);
        };
        refused(longAndWide, BAD, y -> y.both(2, 2));
        refused(longAndWide, WIDE, y -> y.both(2, 0), y -> y.both(0, 0));
        // BAD ahead of FULL and WIDE, FULL ahead of WIDE
        Setup fullAndWide = y -> {
            longAndWide.on(y);
            fillSources(y);
        };
        refused(fullAndWide, BAD, y -> y.both(2, 2), y -> y.both(2, 16));
        refused(fullAndWide, FULL, y -> y.both(2, 0), y -> y.both(0, 0));
        // NOTHING ahead of WIDE and of NONE
        refused(TermsBoundaries::widestAbove, NOTHING, y -> y.work(1, 0, 0, 9), y -> y.work(0, 0, 9, 0), y -> y.limb(9, 0, 99), y -> y.digits(9, 18));
        refused(TermsBoundaries::widestAbove, BAD, y -> y.work(1, 16, 0, 0), y -> y.work(4, 0, 0, 0), y -> y.digits(0, 19), y -> y.limb(0, 2, 99));
        // BAD ahead of NONE
        refused(Checks::some, BAD, y -> y.counted(1, 121), y -> y.counted(1, -1), y -> y.needed(0, 1, 0, 1, 2), y -> y.needed(0, 1, 0, 0, 0));
    }

    private static void nothingChanges() {
        sentence("Terms", "WIDE; then nothing changes.");
        refused(Checks::some, NOTHING, y -> y.work(0, 0, 1, 0), y -> y.work(1, 7, 0, 1), y -> y.work(2, 1, 1, 1), y -> y.work(3, 0, 1, 0),
            y -> y.order(0, 1), y -> y.order(1, 0), y -> y.limbs(1, 0), y -> y.limb(1, 1, 0), y -> y.digits(1, 0));
        refused(Checks::some, NONE, y -> y.counted(1, 0), y -> y.counted(3, 0), y -> y.counted(4, 0), y -> y.limb(0, 0, 1), y -> y.limb(0, 1, -1),
            y -> y.needed(0, 1, 0, 1, 0), y -> y.needed(1, 1, 0, 1, 1));
        refused(Checks::allWeights, FULL, y -> y.weight(0), y -> y.weight(1000));
        refused(Checks::wideTotal, WIDE, y -> y.both(2, 3));
    }
}
