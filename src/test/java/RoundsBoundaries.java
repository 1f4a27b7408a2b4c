import java.math.BigInteger;

/** The boundary cases of promises 23 to 27: the coin, rounds that are needed, the line, and how many there are. */
final class RoundsBoundaries extends Checks {
    private RoundsBoundaries() {
    }

    static void all() {
        coinRanges();
        coinBad();
        coinAsTold();
        neededLeast();
        neededFromWhichOn();
        neededRanges();
        neededBad();
        neededNone();
        lineRanges();
        lineBad();
        crossedFrom1To40();
        crossedAtSome();
        crossedForTheFirstTime();
        crossedAdded();
        crossedBad();
        countSources();
        countWeights();
        countPlaces();
        countBad();
    }

    // ---- promise 23

    private static void coinRanges() {
        sentence("Promise 23: coin", "THE COIN becomes a / b (b 1 .. 60, a 0 .. b;");
        TailBounds x = new TailBounds();
        int[][] odds = {{0, 1}, {1, 1}, {0, 60}, {60, 60}, {1, 60}, {59, 60}, {30, 60}};
        for (int[] o : odds) {
            due(x.coin(o[0], o[1]), 1);
            due(x.crossed(0, 0, 1), 1);
            share(x, 0, o[0], o[1]);
        }
        x.coin(1, 60);
        x.line(40, 0, 1);
        due(x.crossed(0, 0, 40), 1);
        holds(x, 0, BigInteger.ONE, BigInteger.valueOf(60).pow(40));
    }

    private static void coinBad() {
        sentence("Promise 23: coin", "not in lowest terms): 1. BAD.");
        refused(Checks::some, BAD, y -> y.coin(0, 0), y -> y.coin(1, 0), y -> y.coin(0, -1), y -> y.coin(0, 61), y -> y.coin(1, 61), y -> y.coin(0, MIN), y -> y.coin(0, MAX));
        refused(Checks::some, BAD, y -> y.coin(-1, 1), y -> y.coin(2, 1), y -> y.coin(-1, 60), y -> y.coin(61, 60), y -> y.coin(61, 61), y -> y.coin(MIN, 60), y -> y.coin(MAX, 60));
        refused(Checks::some, BAD, y -> y.coin(MIN, MIN), y -> y.coin(MAX, MAX), y -> y.coin(-1, -1));
        refused(y -> y.count(0), BAD, y -> y.coin(0, 0), y -> y.coin(3, 2), y -> y.coin(1, 61));
    }

    private static void coinAsTold() {
        sentence("Promise 23: coin", "as it is told, not in lowest terms");
        TailBounds x = new TailBounds();
        TailBounds y = new TailBounds();
        x.coin(1, 3);
        y.coin(20, 60);
        for (int n = 1; n <= 40; n += 13) {
            due(x.crossed(0, 2, n), y.crossed(0, 2, n));
            due(x.digits(0, 18), y.digits(0, 18));
        }
        for (int how = 0; how < 2; how++) {
            due(x.needed(how, 20, 1, 7, 0), y.needed(how, 20, 1, 7, 0));
            due(x.needed(how, 20, 1, 7, 1), y.needed(how, 20, 1, 7, 1));
        }
    }

    // ---- promise 24

    private static void neededLeast() {
        sentence("Promise 24: needed", "which = 0 the least n that is GOOD");
        TailBounds x = new TailBounds();
        // width 1 / 4: shares 1, 1 / 2, 1 / 4, 5 / 8, 3 / 8, 7 / 32, ..
        due(x.needed(0, 25, 1, 1, 0), 1);
        due(x.needed(0, 25, 1, 2, 0), 2);
        due(x.needed(0, 25, 1, 4, 0), 3);
        due(x.needed(0, 25, 249999, 1000000, 0), 6);
        due(x.needed(1, 50, 1, 40, 0), 40);
    }

    private static void neededFromWhichOn() {
        sentence("Promise 24: needed", "1 the least from which on all to 40 are.");
        TailBounds x = new TailBounds();
        due(x.needed(0, 25, 1, 1, 1), 1);
        due(x.needed(0, 25, 5, 8, 1), 2);
        due(x.needed(0, 25, 1, 2, 1), 5);
        due(x.needed(0, 25, 1, 4, 1), 9);
        due(x.needed(1, 50, 1, 40, 1), 40);
        due(x.needed(1, 50, 1, 1, 1), 1);
        // 32 is GOOD with 0.215.., but 40 is not, with 0.268..
        due(x.needed(0, 10, 24, 100, 0), 32);
        due(x.needed(0, 10, 24, 100, 1), NONE);
    }

    private static void neededRanges() {
        sentence("Promise 24: needed", "BAD: how, w not 1 .. 100, u not 0 .. 1000000, v not 1 .. 1000000, which");
        TailBounds x = new TailBounds();
        due(x.needed(0, 1, 1, 1, 0), 1);
        due(x.needed(1, 1, 1, 1, 1), 1);
        due(x.needed(0, 100, 0, 1, 0), 1);
        due(x.needed(1, 100, 1, 4, 0), 1);
        due(x.needed(1, 100, 1, 5, 0), 2);
        due(x.needed(0, 50, 0, 1000000, 0), NONE);
        due(x.needed(0, 50, 1000000, 1, 0), 1);
        due(x.needed(1, 50, 1000000, 1, 1), 1);
        due(x.needed(0, 50, 1000000, 1000000, 0), 1);
        due(x.needed(0, 50, 1, 1000000, 0), 21);
        due(x.needed(1, 50, 25000, 1000000, 0), 40);
        due(x.needed(1, 50, 24999, 1000000, 0), NONE);
    }

    private static void neededBad() {
        sentence("Promise 24: needed", "BAD: how, w not 1 .. 100, u not 0 .. 1000000, v not 1 .. 1000000, which");
        refused(Checks::some, BAD, y -> y.needed(-1, 1, 1, 1, 0), y -> y.needed(2, 1, 1, 1, 0), y -> y.needed(MIN, 1, 1, 1, 0), y -> y.needed(MAX, 1, 1, 1, 0));
        for (int how = 0; how < 2; how++) {
            int h = how;
            refused(Checks::some, BAD, y -> y.needed(h, 0, 1, 1, 0), y -> y.needed(h, 101, 1, 1, 0), y -> y.needed(h, -1, 1, 1, 0), y -> y.needed(h, MIN, 1, 1, 0), y -> y.needed(h, MAX, 1, 1, 0));
            refused(Checks::some, BAD, y -> y.needed(h, 1, -1, 1, 0), y -> y.needed(h, 1, 1000001, 1, 0), y -> y.needed(h, 1, MIN, 1, 0), y -> y.needed(h, 1, MAX, 1, 0));
            refused(Checks::some, BAD, y -> y.needed(h, 1, 1, 0, 0), y -> y.needed(h, 1, 1, 1000001, 0), y -> y.needed(h, 1, 1, -1, 0), y -> y.needed(h, 1, 1, MIN, 0), y -> y.needed(h, 1, 1, MAX, 0));
            refused(Checks::some, BAD, y -> y.needed(h, 1, 1, 1, -1), y -> y.needed(h, 1, 1, 1, 2), y -> y.needed(h, 1, 1, 1, MIN), y -> y.needed(h, 1, 1, 1, MAX));
        }
    }

    private static void neededNone() {
        sentence("Promise 24: needed", "which; NONE.");
        TailBounds x = new TailBounds();
        for (int which = 0; which < 2; which++) {
            due(x.needed(0, 50, 0, 1, which), NONE);
            due(x.needed(0, 1, 1, 1000000, which), NONE);
            due(x.needed(1, 100, 0, 1, which), NONE);
            due(x.needed(1, 50, 1, 41, which), NONE);
            due(x.needed(1, 1, 999999, 1000000, which), NONE);
        }
        refused(Checks::some, NONE, y -> y.needed(0, 1, 0, 1, 0), y -> y.needed(1, 1, 0, 1, 1));
    }

    // ---- promise 25

    private static void lineRanges() {
        sentence("Promise 25: line", "THE LINE becomes c + d i / e (c 0 .. 60, d 0 .. 60, e 1 .. 60): 1.");
        TailBounds x = new TailBounds();
        x.coin(1, 1);
        // h is i; c, d, e, and where it is CROSSED for the first time (0: never to 40)
        int[][] lines = {{0, 0, 1, 1}, {0, 0, 60, 1}, {40, 0, 1, 40}, {41, 0, 60, 0}, {60, 0, 1, 0}, {60, 60, 60, 0}, {0, 60, 60, 1}, {0, 60, 59, 0}, {0, 59, 60, 1},
            {0, 60, 1, 0}, {1, 60, 60, 0}, {39, 1, 60, 40}, {38, 1, 20, 40}, {38, 3, 60, 40}, {38, 4, 60, 0}, {20, 30, 60, 40}, {60, 60, 1, 0}};
        for (int[] l : lines) {
            due(x.line(l[0], l[1], l[2]), 1);
            due(x.crossed(0, 0, 40), 1);
            holds(x, 0, l[3] > 0 ? 1 : 0, 1);
            due(x.crossed(0, 1, Math.max(l[3], 1)), 1);
            holds(x, 0, l[3] > 0 ? 1 : 0, 1);
        }
    }

    private static void lineBad() {
        sentence("Promise 25: line", "e 1 .. 60): 1. BAD.");
        refused(Checks::some, BAD, y -> y.line(-1, 1, 1), y -> y.line(61, 1, 1), y -> y.line(MIN, 1, 1), y -> y.line(MAX, 1, 1));
        refused(Checks::some, BAD, y -> y.line(0, -1, 1), y -> y.line(0, 61, 1), y -> y.line(0, MIN, 1), y -> y.line(0, MAX, 1));
        refused(Checks::some, BAD, y -> y.line(0, 0, 0), y -> y.line(0, 0, -1), y -> y.line(0, 0, 61), y -> y.line(0, 0, MIN), y -> y.line(0, 0, MAX));
        refused(y -> y.count(0), BAD, y -> y.line(0, 0, 0), y -> y.line(61, 0, 1), y -> y.line(0, 61, 1));
    }

    // ---- promise 26

    private static void crossedFrom1To40() {
        sentence("Promise 26: crossed", "A PLACE holds the share with which the LINE is CROSSED, n (1 .. 40) throws");
        TailBounds x = new TailBounds();
        for (int how = 0; how < 3; how++) {
            due(x.crossed(15, how, 1), 1);
            holds(x, 15, 1, 2);
            due(x.crossed(0, how, 40), 1);
        }
        x.line(40, 0, 1);
        BigInteger rows = BigInteger.TWO.pow(40);
        for (int how = 0; how < 3; how++) {
            due(x.crossed(0, how, 40), 1);
            holds(x, 0, BigInteger.ONE, rows);
            due(x.crossed(0, how, 39), 1);
            holds(x, 0, 0, 1);
        }
    }

    private static void crossedAtSome() {
        sentence("Promise 26: crossed", "how = 0 at some i to n");
        TailBounds x = new TailBounds();
        due(x.crossed(0, 0, 40), 1);
        holds(x, 0, 1, 2);
        x.line(1, 0, 1);
        for (int n = 1; n <= 40; n++) {
            due(x.crossed(0, 0, n), 1);
            holds(x, 0, (1L << n) - 1, 1L << n);
        }
    }

    private static void crossedForTheFirstTime() {
        sentence("Promise 26: crossed", "1 at n for the first time");
        TailBounds x = new TailBounds();
        x.line(1, 0, 1);
        for (int n = 1; n <= 40; n++) {
            due(x.crossed(0, 1, n), 1);
            holds(x, 0, 1, 1L << n);
        }
        x.line(0, 0, 1);
        due(x.crossed(0, 1, 1), 1);
        holds(x, 0, 1, 1);
        due(x.crossed(0, 1, 40), 1);
        holds(x, 0, 0, 1);
        // what was CROSSED before does not count again: only rows that come to 2 right at n
        x.line(2, 0, 1);
        due(x.crossed(0, 1, 2), 1);
        holds(x, 0, 1, 4);
        due(x.crossed(0, 1, 3), 1);
        holds(x, 0, 1, 4);
        due(x.crossed(0, 1, 4), 1);
        holds(x, 0, 3, 16);
        // nor does what was CROSSED at 1, not at 2, and is again at 3
        x.line(0, 2, 3);
        due(x.crossed(0, 1, 1), 1);
        holds(x, 0, 1, 2);
        due(x.crossed(0, 1, 3), 1);
        holds(x, 0, 1, 8);
    }

    private static void crossedAdded() {
        sentence("Promise 26: crossed", "2 the shares of being CROSSED at each i to n, added, or 1, if that is more: 1.");
        TailBounds x = new TailBounds();
        // 1 / 2 + 1 / 4 + .. stays below 1
        due(x.crossed(0, 2, 40), 1);
        holds(x, 0, (1L << 40) - 1, 1L << 40);
        // 1 / 4 + 1 / 2 at 2 and 3, and 11 / 16 more at 4 are too much
        x.line(2, 0, 1);
        due(x.crossed(0, 2, 1), 1);
        holds(x, 0, 0, 1);
        due(x.crossed(0, 2, 2), 1);
        holds(x, 0, 1, 4);
        due(x.crossed(0, 2, 3), 1);
        holds(x, 0, 3, 4);
        due(x.crossed(0, 2, 4), 1);
        holds(x, 0, 1, 1);
        due(x.crossed(0, 2, 40), 1);
        holds(x, 0, 1, 1);
        // just 1 at the first throw, and 1 more at the second
        x.line(0, 0, 1);
        due(x.crossed(0, 2, 1), 1);
        holds(x, 0, 1, 1);
        due(x.crossed(0, 2, 2), 1);
        holds(x, 0, 1, 1);
    }

    private static void crossedBad() {
        sentence("Promise 26: crossed", "if that is more: 1. BAD.");
        refused(Checks::some, BAD, y -> y.crossed(-1, 0, 1), y -> y.crossed(16, 0, 1), y -> y.crossed(MIN, 0, 1), y -> y.crossed(MAX, 0, 1));
        refused(Checks::some, BAD, y -> y.crossed(0, -1, 1), y -> y.crossed(0, 3, 1), y -> y.crossed(0, MIN, 1), y -> y.crossed(0, MAX, 1));
        refused(Checks::some, BAD, y -> y.crossed(0, 0, 0), y -> y.crossed(0, 0, 41), y -> y.crossed(0, 1, -1), y -> y.crossed(0, 2, MIN), y -> y.crossed(1, 0, MAX));
    }

    // ---- promise 27

    private static void countSources() {
        sentence("Promise 27: count", "0 SOURCES");
        TailBounds x = new TailBounds();
        for (int s = 0; s < 16; s++) {
            due(x.count(0), s);
            x.coins(0, 0, 1);
        }
        due(x.count(0), 16);
        due(x.coins(0, 0, 1), FULL);
        due(x.count(0), 16);
        due(x.count(1), 0);
        due(x.count(2), 0);
    }

    private static void countWeights() {
        sentence("Promise 27: count", "1 WEIGHTS");
        TailBounds x = new TailBounds();
        for (int i = 0; i < 8; i++) {
            due(x.count(1), i);
            x.weight(0);
        }
        due(x.count(1), 8);
        due(x.weight(0), FULL);
        due(x.count(1), 8);
        due(x.count(0), 0);
        due(x.count(2), 0);
        x.wipe();
        due(x.count(1), 0);
    }

    private static void countPlaces() {
        sentence("Promise 27: count", "2 PLACES that hold something.");
        TailBounds x = new TailBounds();
        for (int p = 15; p >= 0; p--) {
            due(x.count(2), 15 - p);
            x.set(p, 0, 1);
            x.set(p, 1, 1);
        }
        due(x.count(2), 16);
        due(x.count(0), 0);
        due(x.count(1), 0);
        for (int p = 15; p >= 0; p--) {
            x.free(p);
            due(x.count(2), p);
        }
    }

    private static void countBad() {
        sentence("Promise 27: count", "2 PLACES that hold something. BAD.");
        refused(Checks::some, BAD, y -> y.count(-1), y -> y.count(3), y -> y.count(MIN), y -> y.count(MAX));
    }
}
