import java.math.BigInteger;

/** The boundary cases of promises 1 to 10: a new object, weights and sources. */
final class SourcesBoundaries extends Checks {
    private SourcesBoundaries() {
    }

    static void all() {
        newWithoutWeights();
        newWithoutSources();
        newWithoutFractions();
        newObjectsShareNothing();
        weightFrom0To1000();
        weightBehindTheOthers();
        weightFullAtEight();
        wipeHowManyDid();
        wipeMakesRoom();
        coinsNumbers();
        drawnNumbers();
        sumsWithoutWeights();
        sumsFull();
        bothAbove120();
        bothFullAndWide();
        heldNumbers();
        sourceKinds();
        sourceHighestValue();
        sourceBits();
        sourceZeros();
        sourceBad();
        countedRows();
        countedFrom0To120();
        countedOtherKinds();
        countedMoreThan20000();
    }

    // ---- promise 1

    private static void newWithoutWeights() {
        sentence("Promise 1: A new object", "No WEIGHTS");
        TailBounds x = new TailBounds();
        due(x.count(1), 0);
        due(x.sums(0), BAD);
        due(x.sums(1), BAD);
        due(x.wipe(), 0);
        due(x.weight(5), 1);
    }

    private static void newWithoutSources() {
        sentence("Promise 1: A new object", "no SOURCES");
        TailBounds x = new TailBounds();
        due(x.count(0), 0);
        for (int s = 0; s < 16; s++) {
            due(x.source(s, 0), BAD);
            due(x.mean(0, s), BAD);
        }
        due(x.moment(0, 0, 2), BAD);
        due(x.tail(0, 0, 0, 0), BAD);
        due(x.bound(0, 0, 0, 0), BAD);
        due(x.both(0, 0), BAD);
        due(x.held(0, 0, 0), BAD);
        due(x.counted(0, 0), BAD);
        due(x.coins(0, 0, 1), 0);
    }

    private static void newWithoutFractions() {
        sentence("Promise 1: A new object", "all PLACES hold nothing.");
        TailBounds x = new TailBounds();
        due(x.count(2), 0);
        for (int p = 0; p < 16; p++) {
            due(x.limbs(p, 0), NOTHING);
            due(x.limbs(p, 1), NOTHING);
            due(x.limb(p, 0, 0), NOTHING);
            due(x.digits(p, 0), NOTHING);
            due(x.order(p, p), NOTHING);
            due(x.work(3, p, p, 0), NOTHING);
            due(x.free(p), 0);
        }
        due(x.base(), 0);
    }

    private static void newObjectsShareNothing() {
        sentence("Promise 1: A new object", "No WEIGHTS, no SOURCES, all PLACES hold nothing.");
        TailBounds old = new TailBounds();
        some(old);
        TailBounds x = new TailBounds();
        for (int what = 0; what < 3; what++) {
            due(x.count(what), 0);
        }
        due(x.base(), 0);
        due(x.crossed(0, 0, 1), 1);
        holds(x, 0, 1, 2);
        holds(old, 0, 2, 3);
    }

    // ---- promise 2

    private static void weightFrom0To1000() {
        sentence("Promise 2: weight", "A WEIGHT (0 .. 1000)");
        TailBounds x = new TailBounds();
        due(x.weight(0), 1);
        due(x.weight(1000), 2);
        due(x.weight(1), 3);
        due(x.weight(999), 4);
        due(x.sums(1), 0);
        counts(x, 0, 0, 1000, 1, 999);
        refused(Checks::some, BAD, y -> y.weight(-1), y -> y.weight(1001), y -> y.weight(MIN), y -> y.weight(MAX));
        refused(y -> y.count(1), BAD, y -> y.weight(-1), y -> y.weight(1001));
    }

    private static void weightBehindTheOthers() {
        sentence("Promise 2: weight", "comes behind those that lie there: how many.");
        TailBounds x = new TailBounds();
        for (int i = 1; i <= 8; i++) {
            due(x.weight(10 - i), i);
            due(x.count(1), i);
        }
        due(x.sums(1), 0);
        counts(x, 0, 9, 8, 7, 6, 5, 4, 3, 2);
    }

    private static void weightFullAtEight() {
        sentence("Promise 2: weight", "BAD; FULL: 8.");
        TailBounds x = new TailBounds();
        for (int i = 1; i <= 7; i++) {
            x.weight(0);
        }
        due(x.weight(1000), 8);
        due(x.weight(1), FULL);
        due(x.weight(0), FULL);
        due(x.weight(1000), FULL);
        due(x.weight(1001), BAD);
        due(x.weight(-1), BAD);
        due(x.count(1), 8);
        due(x.sums(1), 0);
        counts(x, 0, 0, 0, 0, 0, 0, 0, 0, 1000);
        refused(Checks::allWeights, FULL, y -> y.weight(1), y -> y.weight(0), y -> y.weight(1000));
    }

    // ---- promise 3

    private static void wipeHowManyDid() {
        sentence("Promise 3: wipe", "No WEIGHTS lie there: how many did.");
        TailBounds x = new TailBounds();
        due(x.wipe(), 0);
        due(x.wipe(), 0);
        x.weight(0);
        due(x.wipe(), 1);
        due(x.wipe(), 0);
        for (int i = 0; i < 9; i++) {
            x.weight(4);
        }
        due(x.wipe(), 8);
        due(x.count(1), 0);
        due(x.wipe(), 0);
        due(x.sums(1), BAD);
    }

    private static void wipeMakesRoom() {
        sentence("Promise 3: wipe", "No WEIGHTS lie there");
        TailBounds x = new TailBounds();
        for (int i = 0; i < 8; i++) {
            x.weight(i + 1);
        }
        x.sums(1);
        due(x.weight(1), FULL);
        due(x.wipe(), 8);
        // none of the old ones is left behind the new one
        due(x.weight(5), 1);
        due(x.sums(1), 1);
        counts(x, 1, 5);
        for (int i = 2; i <= 8; i++) {
            due(x.weight(1), i);
        }
        due(x.weight(1), FULL);
        counts(x, 0, 1, 2, 3, 4, 5, 6, 7, 8);
    }

    // ---- promises 4 and 5

    private static void coinsNumbers() {
        sentence("Promise 4: coins", "COINS: the SOURCE's number. BAD; FULL.");
        TailBounds x = new TailBounds();
        for (int s = 0; s < 16; s++) {
            due(x.coins(s == 15 ? 40 : s, 60, 60), s);
            due(x.coins(41, 60, 60), BAD);
        }
        due(x.coins(0, 0, 1), FULL);
        due(x.coins(40, 60, 60), FULL);
        due(x.coins(-1, 0, 1), BAD);
        due(x.count(0), 16);
        due(x.source(15, 1), 40);
        refused(Checks::allSources, FULL, y -> y.coins(0, 0, 1), y -> y.coins(40, 60, 60));
        refused(Checks::allSources, BAD, y -> y.coins(41, 1, 2), y -> y.coins(1, 3, 2), y -> y.coins(1, 1, 61));
    }

    private static void drawnNumbers() {
        sentence("Promise 5: drawn", "DRAWN, likewise.");
        TailBounds x = new TailBounds();
        for (int s = 0; s < 16; s++) {
            due(x.drawn(60, 60, s == 15 ? 60 : s), s);
            due(x.drawn(60, 60, 61), BAD);
        }
        due(x.drawn(1, 0, 0), FULL);
        due(x.drawn(60, 60, 60), FULL);
        due(x.drawn(0, 0, 0), BAD);
        due(x.count(0), 16);
        due(x.source(15, 1), 60);
        refused(Checks::allSources, FULL, y -> y.drawn(1, 0, 0), y -> y.drawn(60, 60, 60));
        refused(Checks::allSources, BAD, y -> y.drawn(61, 1, 1), y -> y.drawn(3, 4, 1), y -> y.drawn(3, 1, 4));
    }

    // ---- promise 6

    private static void sumsWithoutWeights() {
        sentence("Promise 6: sums", "BAD: also no WEIGHTS, or all 0");
        TailBounds x = new TailBounds();
        due(x.sums(3), BAD);
        for (int i = 0; i < 7; i++) {
            x.weight(0);
            due(x.sums(3), BAD);
            due(x.sums(0), BAD);
        }
        x.weight(1);
        due(x.sums(3), 0);
        x.wipe();
        due(x.sums(3), BAD);
        Setup wiped = y -> {
            some(y);
            y.wipe();
        };
        refused(wiped, BAD, y -> y.sums(0), y -> y.sums(1), y -> y.sums(12), y -> y.sums(13));
        Setup allZero = y -> {
            wiped.on(y);
            y.weight(0);
            y.weight(0);
        };
        refused(allZero, BAD, y -> y.sums(0), y -> y.sums(1), y -> y.sums(12), y -> y.sums(13));
    }

    private static void sumsFull() {
        sentence("Promise 6: sums", "all 0; FULL.");
        TailBounds x = new TailBounds();
        x.weight(1);
        x.weight(1);
        for (int s = 0; s < 16; s++) {
            due(x.sums(s % 13), s);
        }
        due(x.sums(1), FULL);
        due(x.sums(0), FULL);
        due(x.sums(12), FULL);
        due(x.sums(13), BAD);
        due(x.sums(-1), BAD);
        x.wipe();
        due(x.sums(1), BAD);
        x.weight(0);
        due(x.sums(1), BAD);
        x.weight(1);
        due(x.sums(1), FULL);
        due(x.count(0), 16);
        refused(Checks::allSources, FULL, y -> y.sums(0), y -> y.sums(12));
    }

    // ---- promise 7

    private static void bothAbove120() {
        sentence("Promise 7: both", "BOTH. BAD: also M above 120");
        TailBounds x = new TailBounds();
        // 84 and 36 are 120, 84 and 37 are 121
        for (int i = 0; i < 8; i++) {
            x.weight(1);
        }
        x.sums(12);
        x.coins(36, 1, 2);
        x.coins(37, 1, 2);
        due(x.both(0, 1), 3);
        due(x.source(3, 1), 120);
        due(x.both(1, 0), 4);
        due(x.both(0, 2), BAD);
        due(x.both(2, 0), BAD);
        due(x.both(0, 0), BAD);
        due(x.both(3, 4), BAD);
        due(x.count(0), 5);
        // the highest VALUE has the COUNT 1, of a TOTAL of 2^72
        due(x.tail(0, 3, 120, 0), 1);
        holds(x, 0, BigInteger.ONE, BigInteger.TWO.pow(72));
        refused(Checks::some, BAD, y -> y.both(5, 0), y -> y.both(0, 5), y -> y.both(-1, 0), y -> y.both(0, -1));
    }

    private static void bothFullAndWide() {
        sentence("Promise 7: both", "FULL; WIDE.");
        Setup full = y -> {
            wideTotal(y);
            fillSources(y);
        };
        refused(full, FULL, y -> y.both(4, 4), y -> y.both(2, 3), y -> y.both(15, 15));
        refused(full, BAD, y -> y.both(0, 16), y -> y.both(-1, 0));
        refused(Checks::wideTotal, WIDE, y -> y.both(2, 3), y -> y.both(2, 2), y -> y.both(0, 0));
        TailBounds x = new TailBounds();
        wideTotal(x);
        due(x.both(2, 3), WIDE);
        due(x.both(4, 2), 5);
        due(x.source(5, 2), 256);
        for (int s = 6; s < 16; s++) {
            due(x.both(4, 4), s);
        }
        due(x.both(4, 4), FULL);
        due(x.both(2, 3), FULL);
    }

    // ---- promise 8

    private static void heldNumbers() {
        sentence("Promise 8: held", "HELD. BAD; FULL.");
        TailBounds x = new TailBounds();
        x.coins(40, 1, 2);
        due(x.held(0, 0, 40), 1);
        due(x.held(0, 40, 40), 2);
        due(x.held(0, 0, 0), 3);
        due(x.held(0, 0, 41), BAD);
        due(x.held(0, -1, 40), BAD);
        due(x.held(0, 41, 41), BAD);
        due(x.held(0, 21, 20), BAD);
        due(x.held(4, 0, 0), BAD);
        for (int s = 4; s < 16; s++) {
            due(x.held(s - 1, 0, 40), s);
        }
        due(x.held(15, 0, 40), FULL);
        due(x.held(15, 0, 41), BAD);
        due(x.held(16, 0, 0), BAD);
        due(x.held(0, 1, 0), BAD);
        // a TOTAL of 256 bits stays as it is
        TailBounds y = new TailBounds();
        wideTotal(y);
        due(y.held(2, 0, 51), 5);
        due(y.held(2, 51, 51), 6);
        due(y.source(6, 2), 256);
        due(y.source(6, 3), 51);
        refused(Checks::allSources, FULL, z -> z.held(0, 0, 4), z -> z.held(15, 0, 0));
        refused(Checks::allSources, BAD, z -> z.held(0, 0, 5), z -> z.held(0, 4, 3), z -> z.held(16, 0, 0));
    }

    // ---- promise 9

    private static void sourceKinds() {
        sentence("Promise 9: source", "what = 0 its KIND");
        TailBounds x = new TailBounds();
        some(x);
        for (int s = 0; s < 5; s++) {
            due(x.source(s, 0), s);
        }
    }

    private static void sourceHighestValue() {
        sentence("Promise 9: source", "1 M");
        TailBounds x = new TailBounds();
        x.coins(0, 1, 2);
        due(x.source(0, 1), 0);
        x.coins(40, 1, 2);
        due(x.source(1, 1), 40);
        x.drawn(60, 60, 60);
        due(x.source(2, 1), 60);
        x.both(2, 2);
        due(x.source(3, 1), 120);
        x.held(3, 0, 0);
        due(x.source(4, 1), 120);
        x.drawn(60, 1, 0);
        due(x.source(5, 1), 0);
    }

    private static void sourceBits() {
        sentence("Promise 9: source", "2 how many bits its TOTAL has");
        TailBounds x = new TailBounds();
        x.coins(0, 1, 60);
        due(x.source(0, 2), 1);
        x.coins(40, 1, 1);
        due(x.source(1, 2), 1);
        x.coins(31, 1, 2);
        due(x.source(2, 2), 32);
        x.coins(32, 1, 2);
        due(x.source(3, 2), 33);
        x.coins(1, 1, 31);
        due(x.source(4, 2), 5);
        x.coins(1, 1, 32);
        due(x.source(5, 2), 6);
        x.coins(40, 1, 60);
        due(x.source(6, 2), 237);
        TailBounds y = new TailBounds();
        wideTotal(y);
        due(y.source(2, 2), 256);
    }

    private static void sourceZeros() {
        sentence("Promise 9: source", "3 how many of its COUNTS are 0.");
        TailBounds x = new TailBounds();
        x.coins(40, 1, 2);
        due(x.source(0, 3), 0);
        x.coins(40, 0, 2);
        due(x.source(1, 3), 40);
        x.coins(0, 0, 2);
        due(x.source(2, 3), 0);
        // COUNTS of which the lowest parts are 0, but not the others: 2^255 is the only one
        x.coins(40, 32, 32);
        x.coins(11, 32, 32);
        x.both(3, 4);
        due(x.source(5, 3), 51);
        x.held(5, 0, 0);
        due(x.source(6, 3), 51);
    }

    private static void sourceBad() {
        sentence("Promise 9: source", "3 how many of its COUNTS are 0. BAD.");
        refused(Checks::some, BAD, y -> y.source(0, -1), y -> y.source(0, 4), y -> y.source(0, MIN), y -> y.source(0, MAX));
        refused(Checks::some, BAD, y -> y.source(-1, 0), y -> y.source(5, 0), y -> y.source(16, 0), y -> y.source(MIN, 3), y -> y.source(MAX, 3));
        TailBounds x = new TailBounds();
        allSources(x);
        due(x.source(15, 0), 0);
        due(x.source(16, 0), BAD);
    }

    // ---- promise 10

    private static void countedRows() {
        sentence("Promise 10: counted", "of COINS each of n rounds one of b sides, a of which are 1; of SUMS each of n rounds one of as many sides as all WEIGHTS together");
        TailBounds x = new TailBounds();
        x.coins(2, 3, 4);
        long[] coins = {16, 15, 9, 0};
        for (int k = 0; k < coins.length; k++) {
            due(x.counted(0, k), coins[k]);
        }
        x.weight(0);
        x.weight(2);
        x.weight(1);
        x.sums(2);
        long[] sums = {9, 9, 9, 5, 1, 0};
        for (int k = 0; k < sums.length; k++) {
            due(x.counted(1, k), sums[k]);
        }
        // no rounds: one row, which comes to 0
        x.coins(0, 1, 2);
        x.sums(0);
        for (int s = 2; s < 4; s++) {
            due(x.counted(s, 0), 1);
            due(x.counted(s, 1), 0);
        }
        // no side is 1, or all are
        x.coins(3, 0, 27);
        due(x.counted(4, 0), 19683);
        due(x.counted(4, 1), 0);
        x.coins(3, 27, 27);
        due(x.counted(5, 3), 19683);
        due(x.counted(5, 4), 0);
    }

    private static void countedFrom0To120() {
        sentence("Promise 10: counted", "BAD: k is not 0 .. 120, too");
        TailBounds x = new TailBounds();
        x.coins(3, 1, 2);
        due(x.counted(0, 0), 8);
        due(x.counted(0, 3), 1);
        due(x.counted(0, 4), 0);
        due(x.counted(0, 120), 0);
        refused(Checks::some, BAD, y -> y.counted(0, -1), y -> y.counted(0, 121), y -> y.counted(0, MIN), y -> y.counted(0, MAX));
        refused(Checks::some, BAD, y -> y.counted(-1, 0), y -> y.counted(5, 0), y -> y.counted(16, 0), y -> y.counted(MIN, 0), y -> y.counted(MAX, 0));
        // also where there would be none
        refused(Checks::some, BAD, y -> y.counted(1, -1), y -> y.counted(1, 121), y -> y.counted(3, 121), y -> y.counted(4, 121));
    }

    private static void countedOtherKinds() {
        sentence("Promise 10: counted", "NONE: another KIND");
        TailBounds x = new TailBounds();
        x.coins(1, 1, 2);
        x.drawn(2, 1, 1);
        x.both(0, 0);
        x.held(0, 0, 1);
        for (int s = 1; s < 4; s++) {
            due(x.counted(s, 0), NONE);
            due(x.counted(s, 120), NONE);
        }
        due(x.counted(0, 0), 2);
    }

    private static void countedMoreThan20000() {
        sentence("Promise 10: counted", "or there are more than 20000 rows.");
        // n, the most sides that make no more rows than that, and the rows of one side more
        int[][] edges = {{3, 27}, {4, 11}, {5, 7}, {6, 5}, {7, 4}, {8, 3}, {9, 3}, {10, 2}, {14, 2}};
        for (int[] edge : edges) {
            TailBounds x = new TailBounds();
            x.coins(edge[0], 1, edge[1]);
            x.coins(edge[0], 1, edge[1] + 1);
            due(x.counted(0, 0), (long) Math.pow(edge[1], edge[0]));
            due(x.counted(0, edge[0]), 1);
            due(x.counted(1, 0), NONE);
            due(x.counted(1, 120), NONE);
        }
        TailBounds x = new TailBounds();
        x.coins(2, 1, 60);
        due(x.counted(0, 0), 3600);
        x.coins(15, 1, 2);
        due(x.counted(1, 0), NONE);
        x.coins(40, 1, 1);
        due(x.counted(2, 0), 1);
        // rows whose lowest 32 bits are 0
        x.coins(32, 1, 2);
        due(x.counted(3, 0), NONE);
        x.coins(40, 1, 16);
        due(x.counted(4, 0), NONE);
        sumsOfMoreThan20000();
    }

    private static void sumsOfMoreThan20000() {
        TailBounds x = new TailBounds();
        x.weight(141);
        x.sums(2);
        due(x.counted(0, 0), 19881);
        x.weight(1);
        x.sums(2);
        // 142 times 142 are 20164
        due(x.counted(1, 0), NONE);
        due(x.counted(1, 2), NONE);
        x.sums(1);
        due(x.counted(2, 0), 142);
        due(x.counted(2, 1), 1);
        x.wipe();
        for (int i = 0; i < 8; i++) {
            x.weight(1000);
        }
        x.sums(1);
        due(x.counted(3, 0), 8000);
        due(x.counted(3, 7), 1000);
        x.sums(2);
        due(x.counted(4, 0), NONE);
        x.sums(12);
        due(x.counted(5, 0), NONE);
    }
}
