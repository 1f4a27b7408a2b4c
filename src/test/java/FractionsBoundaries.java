import java.math.BigInteger;

/** The boundary cases of promises 11 to 22: what PLACES hold. */
final class FractionsBoundaries extends Checks {
    private FractionsBoundaries() {
    }

    static void all() {
        setAboveAndBelow();
        setBad();
        meanEdges();
        meanBad();
        momentEdges();
        momentBad();
        tailEdges();
        tailBad();
        boundRanges();
        boundBad();
        boundHighestAt();
        baseAtFirst();
        baseNotAboveTheMean();
        baseOfTheLatest();
        baseWhereTheLeastIsAboveOne();
        workTogether();
        workTimes();
        workLesser();
        workLess();
        workRDoesNotMatter();
        workBad();
        workNothing();
        workOntoItself();
        orderEdges();
        orderBadAndNothing();
        limbsEdges();
        limbsBadAndNothing();
        limbHighest();
        limbBadAndNothing();
        limbNone();
        digitsFrom0To18();
        digitsCutOff();
        digitsNoLong();
        digitsBadAndNothing();
        freeEdges();
        freeBad();
    }

    // ---- promise 11

    private static void setAboveAndBelow() {
        sentence("Promise 11: set", "A PLACE holds above / below (0 and more; below above 0): 1.");
        TailBounds x = new TailBounds();
        due(x.set(0, 0, 1), 1);
        holds(x, 0, 0, 1);
        due(x.set(0, 1, 1), 1);
        holds(x, 0, 1, 1);
        due(x.set(0, MAX, 1), 1);
        holds(x, 0, MAX, 1);
        due(x.set(0, 1, MAX), 1);
        holds(x, 0, 1, MAX);
        due(x.set(0, 0, MAX), 1);
        holds(x, 0, 0, 1);
        due(x.set(15, MAX, MAX - 1), 1);
        holds(x, 15, MAX, MAX - 1);
        // what was there before is gone
        allOnes(x, 15, 1, 10);
        due(x.set(15, 3, 5), 1);
        holds(x, 15, 3, 5);
        due(x.count(2), 2);
    }

    private static void setBad() {
        sentence("Promise 11: set", "below above 0): 1. BAD.");
        refused(Checks::some, BAD, y -> y.set(0, -1, 1), y -> y.set(0, MIN, 1), y -> y.set(0, 1, 0), y -> y.set(0, 0, 0), y -> y.set(0, 1, -1),
            y -> y.set(0, 1, MIN), y -> y.set(0, -1, -1), y -> y.set(0, MIN, MIN));
        refused(Checks::some, BAD, y -> y.set(-1, 1, 1), y -> y.set(16, 1, 1), y -> y.set(MIN, 1, 1), y -> y.set(MAX, 1, 1));
        // a PLACE that held nothing holds nothing still
        refused(Checks::some, BAD, y -> y.set(1, -1, 1), y -> y.set(1, 1, 0));
    }

    // ---- promises 12 and 13

    private static void meanEdges() {
        sentence("Promise 12: mean", "A PLACE holds the MEAN: 1.");
        TailBounds x = new TailBounds();
        x.coins(40, 0, 60);
        due(x.mean(0, 0), 1);
        holds(x, 0, 0, 1);
        x.coins(40, 60, 60);
        due(x.mean(0, 1), 1);
        holds(x, 0, 40, 1);
        x.coins(0, 1, 60);
        due(x.mean(0, 2), 1);
        holds(x, 0, 0, 1);
        x.drawn(60, 60, 60);
        x.both(3, 3);
        due(x.mean(15, 4), 1);
        holds(x, 15, 120, 1);
        // of 2^255 rows just one comes to 51, all others are held at 50
        TailBounds y = new TailBounds();
        y.coins(40, 1, 32);
        y.coins(11, 1, 32);
        y.both(0, 1);
        y.held(2, 50, 51);
        due(y.mean(0, 3), 1);
        holds(y, 0, BigInteger.TWO.pow(255).multiply(BigInteger.valueOf(50)).add(BigInteger.ONE), BigInteger.TWO.pow(255));
        due(bits(y, 0, 0), 261);
    }

    private static void meanBad() {
        sentence("Promise 12: mean", "A PLACE holds the MEAN: 1. BAD.");
        refused(Checks::some, BAD, y -> y.mean(-1, 0), y -> y.mean(16, 0), y -> y.mean(0, -1), y -> y.mean(0, 5), y -> y.mean(1, 5), y -> y.mean(0, 16),
            y -> y.mean(MIN, 0), y -> y.mean(MAX, 0), y -> y.mean(0, MIN), y -> y.mean(0, MAX));
    }

    private static void momentEdges() {
        sentence("Promise 13: moment", "A PLACE holds MOMENT 2, 4: 1.");
        TailBounds x = new TailBounds();
        x.drawn(2, 1, 1);
        due(x.moment(0, 0, 2), 1);
        holds(x, 0, 1, 4);
        due(x.moment(0, 0, 4), 1);
        holds(x, 0, 1, 16);
        for (int i = 0; i < 8; i++) {
            x.weight(i == 0 || i == 7 ? 1000 : 0);
        }
        x.sums(1);
        due(x.moment(0, 1, 2), 1);
        holds(x, 0, 49, 4);
        due(x.moment(0, 1, 4), 1);
        holds(x, 0, 2401, 16);
        // a sure VALUE has none
        x.coins(40, 60, 60);
        x.coins(0, 1, 2);
        for (int s = 2; s < 4; s++) {
            due(x.moment(0, s, 2), 1);
            holds(x, 0, 0, 1);
            due(x.moment(0, s, 4), 1);
            holds(x, 0, 0, 1);
        }
    }

    private static void momentBad() {
        sentence("Promise 13: moment", "1. BAD; WIDE.");
        refused(Checks::some, BAD, y -> y.moment(0, 0, 3), y -> y.moment(0, 0, 1), y -> y.moment(0, 0, 5), y -> y.moment(1, 0, 0));
        refused(Checks::some, BAD, y -> y.moment(-1, 0, 2), y -> y.moment(16, 0, 4), y -> y.moment(0, -1, 2), y -> y.moment(0, 5, 4),
            y -> y.moment(MIN, 0, 2), y -> y.moment(MAX, 0, 2), y -> y.moment(0, MIN, 4), y -> y.moment(0, MAX, 4));
        // BAD ahead of WIDE
        Setup wide = y -> wideMean(y, row(34, 54, 55), row(17, 10, 11), 2, 50);
        refused(wide, BAD, y -> y.moment(16, 3, 4), y -> y.moment(0, 3, 3), y -> y.moment(0, 4, 4));
        refused(wide, WIDE, y -> y.moment(0, 3, 4), y -> y.moment(15, 3, 4));
    }

    // ---- promise 14

    private static void tailEdges() {
        sentence("Promise 14: tail", "A PLACE holds a TAIL: 1.");
        TailBounds x = new TailBounds();
        x.coins(0, 1, 2);
        for (int side = 0; side < 3; side++) {
            due(x.tail(0, 0, 0, side), 1);
            holds(x, 0, 1, 1);
            due(x.tail(15, 0, 1, side), 1);
            holds(x, 15, side == 1 ? 1 : 0, 1);
        }
        x.drawn(60, 60, 60);
        x.both(1, 1);
        for (int side = 0; side < 3; side++) {
            due(x.tail(0, 2, 120, side), 1);
            holds(x, 0, 1, 1);
            due(x.tail(0, 2, 119, side), 1);
            holds(x, 0, side == 0 ? 1 : 0, 1);
            due(x.tail(0, 2, 0, side), 1);
            holds(x, 0, side == 0 ? 1 : 0, 1);
        }
    }

    private static void tailBad() {
        sentence("Promise 14: tail", "A PLACE holds a TAIL: 1. BAD.");
        refused(Checks::some, BAD, y -> y.tail(-1, 0, 1, 0), y -> y.tail(16, 0, 1, 0), y -> y.tail(0, -1, 1, 0), y -> y.tail(0, 5, 1, 0),
            y -> y.tail(0, 0, -1, 0), y -> y.tail(0, 0, 121, 0), y -> y.tail(0, 0, 1, -1), y -> y.tail(0, 0, 1, 3));
        refused(Checks::some, BAD, y -> y.tail(MIN, MIN, MIN, MIN), y -> y.tail(MAX, MAX, MAX, MAX), y -> y.tail(1, 0, 121, 0), y -> y.tail(1, 0, 1, 3));
    }

    // ---- promise 15

    private static void boundRanges() {
        sentence("Promise 15: bound", "A PLACE holds a BOUND: 1.");
        TailBounds x = new TailBounds();
        x.coins(4, 1, 2);
        long[][] at4 = {{1, 2}, {1, 4}, {5, 32}, {1, 5}, {16, 81}};
        for (int kind = 0; kind < 5; kind++) {
            due(x.bound(15, 0, 4, kind), 1);
            holds(x, 15, at4[kind][0], at4[kind][1]);
            due(x.bound(0, 0, 0, kind), 1);
            holds(x, 0, 1, 1);
        }
    }

    private static void boundBad() {
        sentence("Promise 15: bound", "1. BAD; WIDE.");
        refused(Checks::some, BAD, y -> y.bound(-1, 0, 3, 0), y -> y.bound(16, 0, 3, 0), y -> y.bound(0, -1, 3, 0), y -> y.bound(0, 5, 3, 0),
            y -> y.bound(0, 0, -1, 0), y -> y.bound(0, 0, 121, 0), y -> y.bound(0, 0, 3, -1), y -> y.bound(0, 0, 3, 5));
        // of KIND 4 the BASE stays, too
        refused(Checks::some, BAD, y -> y.bound(16, 0, 4, 4), y -> y.bound(0, 5, 4, 4), y -> y.bound(0, 0, -1, 4), y -> y.bound(0, 0, 121, 4));
        refused(Checks::some, BAD, y -> y.bound(MIN, 0, 3, 4), y -> y.bound(0, MAX, 3, 4), y -> y.bound(0, 0, MIN, 4), y -> y.bound(0, 0, 3, MAX), y -> y.bound(0, 0, 3, MIN));
        Setup wide = y -> {
            wideMean(y, row(25, 40, 41), row(21, 1, 47), 23, 26);
            y.bound(0, 3, 64, 4);
        };
        refused(wide, BAD, y -> y.bound(16, 3, 70, 2), y -> y.bound(0, 4, 70, 2));
        refused(wide, WIDE, y -> y.bound(0, 3, 120, 2), y -> y.bound(15, 3, 120, 2));
    }

    private static void boundHighestAt() {
        sentence("Promise 15: bound", "A PLACE holds a BOUND");
        TailBounds x = new TailBounds();
        x.coins(4, 1, 2);
        // k = 120, far above M: 118 above the MEAN
        long[][] at120 = {{1, 60}, {1, 13924}, {5, 387755552}, {1, 13925}};
        for (int kind = 0; kind < 4; kind++) {
            due(x.bound(kind, 0, 120, kind), 1);
            holds(x, kind, at120[kind][0], at120[kind][1]);
        }
        due(x.bound(4, 0, 120, 4), 1);
        holds(x, 4, BigInteger.valueOf(16), BigInteger.valueOf(3).pow(120));
        due(x.base(), 12);
    }

    // ---- promise 16

    private static void baseAtFirst() {
        sentence("Promise 16: base", "or there was none.");
        TailBounds x = new TailBounds();
        due(x.base(), 0);
        x.coins(10, 1, 2);
        for (int kind = 0; kind < 4; kind++) {
            due(x.bound(0, 0, 6, kind), 1);
            due(x.base(), 0);
        }
        due(x.bound(16, 0, 6, 4), BAD);
        due(x.base(), 0);
    }

    private static void baseNotAboveTheMean() {
        sentence("Promise 16: base", "0: k was not above the MEAN");
        TailBounds x = new TailBounds();
        x.coins(10, 1, 2);
        for (int k = 0; k <= 5; k++) {
            due(x.bound(0, 0, 6, 4), 1);
            due(x.base(), 6);
            due(x.bound(0, 0, k, 4), 1);
            due(x.base(), 0);
        }
    }

    private static void baseOfTheLatest() {
        sentence("Promise 16: base", "The BASE of the latest bound() of KIND 4 that was done");
        TailBounds x = new TailBounds();
        x.coins(10, 1, 2);
        due(x.bound(0, 0, 6, 4), 1);
        due(x.base(), 6);
        // another KIND, and one that is refused, leave it
        for (int kind = 0; kind < 4; kind++) {
            due(x.bound(0, 0, 10, kind), 1);
            due(x.bound(0, 0, 3, kind), 1);
            due(x.base(), 6);
        }
        due(x.bound(16, 0, 10, 4), BAD);
        due(x.bound(0, 1, 10, 4), BAD);
        due(x.bound(0, 0, 121, 4), BAD);
        due(x.bound(0, 0, -1, 4), BAD);
        due(x.bound(0, 0, 10, 5), BAD);
        due(x.base(), 6);
        due(x.free(0), 1);
        due(x.set(0, 1, 2), 1);
        due(x.base(), 6);
        due(x.bound(0, 0, 10, 4), 1);
        due(x.base(), 12);
        due(x.base(), 12);
    }

    private static void baseWhereTheLeastIsAboveOne() {
        sentence("Promise 16: base", "(Where the least is above 1, its BASE all the same.)");
        TailBounds x = new TailBounds();
        x.coins(40, 1, 2);
        due(x.bound(0, 0, 21, 4), 1);
        holds(x, 0, 1, 1);
        due(x.base(), 5);
        due(x.bound(0, 0, 20, 4), 1);
        holds(x, 0, 1, 1);
        due(x.base(), 0);
    }

    // ---- promise 17

    private static void workTogether() {
        sentence("Promise 17: work", "PLACE p holds q and r together (act 0)");
        TailBounds x = new TailBounds();
        x.set(0, 0, 1);
        x.set(1, MAX, 1);
        x.set(2, 1, MAX);
        due(x.work(0, 3, 0, 0), 1);
        holds(x, 3, 0, 1);
        due(x.work(0, 3, 0, 2), 1);
        holds(x, 3, 1, MAX);
        due(x.work(0, 3, 1, 1), 1);
        holds(x, 3, 2L * MAX, 1);
        due(x.work(0, 3, 1, 2), 1);
        holds(x, 3, (long) MAX * MAX + 1, MAX);
    }

    private static void workTimes() {
        sentence("Promise 17: work", "q times r (1)");
        TailBounds x = new TailBounds();
        x.set(0, 0, 1);
        x.set(1, MAX, 1);
        x.set(2, 1, MAX);
        due(x.work(1, 3, 0, 1), 1);
        holds(x, 3, 0, 1);
        due(x.work(1, 3, 0, 0), 1);
        holds(x, 3, 0, 1);
        due(x.work(1, 3, 1, 2), 1);
        holds(x, 3, 1, 1);
        due(x.work(1, 3, 1, 1), 1);
        holds(x, 3, (long) MAX * MAX, 1);
        due(x.work(1, 3, 2, 2), 1);
        holds(x, 3, 1, (long) MAX * MAX);
    }

    private static void workLesser() {
        sentence("Promise 17: work", "the lesser one of q and r (2)");
        TailBounds x = new TailBounds();
        x.set(0, MAX - 1, MAX);
        x.set(1, MAX - 2, MAX - 1);
        x.set(2, 0, 1);
        due(x.work(2, 3, 0, 1), 1);
        holds(x, 3, MAX - 2, MAX - 1);
        due(x.work(2, 3, 1, 0), 1);
        holds(x, 3, MAX - 2, MAX - 1);
        due(x.work(2, 3, 0, 0), 1);
        holds(x, 3, MAX - 1, MAX);
        due(x.work(2, 3, 2, 0), 1);
        holds(x, 3, 0, 1);
        due(x.work(2, 3, 0, 2), 1);
        holds(x, 3, 0, 1);
        // as wide as can be on both sides: 1 / 2^1023 and 2^1024 - 1
        inversePower(x, 4, 5, 1023);
        allOnes(x, 6, 7, 10);
        due(x.work(2, 3, 6, 4), 1);
        due(x.order(3, 4), 1);
        due(x.work(2, 3, 6, 6), 1);
        due(x.order(3, 6), 1);
    }

    private static void workLess() {
        sentence("Promise 17: work", "1 less q, or 0, if q is above 1 (3;");
        TailBounds x = new TailBounds();
        // what PLACE 0 holds, and what is left of 1
        int[][] lefts = {{0, 1, 1, 1}, {1, 1, 0, 1}, {MAX - 1, MAX, 1, MAX}, {MAX, MAX - 1, 0, 1}, {MAX, 1, 0, 1}, {1, MAX, MAX - 1, MAX}};
        for (int[] left : lefts) {
            x.set(0, left[0], left[1]);
            due(x.work(3, 1, 0, 0), 1);
            holds(x, 1, left[2], left[3]);
        }
        BigInteger top = BigInteger.TWO.pow(1023);
        inversePower(x, 2, 3, 1023);
        due(x.work(3, 4, 2, 0), 1);
        holds(x, 4, top.subtract(BigInteger.ONE), top);
        due(x.work(3, 4, 4, 0), 1);
        due(x.order(4, 2), 1);
        allOnes(x, 5, 6, 10);
        due(x.work(3, 5, 5, 0), 1);
        holds(x, 5, 0, 1);
    }

    private static void workRDoesNotMatter() {
        sentence("Promise 17: work", "r does not matter then): 1.");
        TailBounds x = new TailBounds();
        x.set(0, 1, 3);
        for (int r : new int[] {0, 1, 15, 16, -1, MIN, MAX}) {
            due(x.work(3, 2, 0, r), 1);
            holds(x, 2, 2, 3);
            due(x.free(2), 1);
        }
    }

    private static void workBad() {
        sentence("Promise 17: work", "1. BAD; NOTHING; WIDE.");
        refused(Checks::some, BAD, y -> y.work(-1, 0, 0, 7), y -> y.work(4, 0, 0, 7), y -> y.work(MIN, 0, 0, 7), y -> y.work(MAX, 0, 0, 7));
        for (int act = 0; act < 4; act++) {
            int a = act;
            refused(Checks::some, BAD, y -> y.work(a, -1, 0, 7), y -> y.work(a, 16, 0, 7), y -> y.work(a, 0, -1, 7), y -> y.work(a, 0, 16, 7),
                y -> y.work(a, MIN, 0, 7), y -> y.work(a, MAX, 0, 7), y -> y.work(a, 0, MIN, 7), y -> y.work(a, 0, MAX, 7));
        }
        for (int act = 0; act < 3; act++) {
            int a = act;
            refused(Checks::some, BAD, y -> y.work(a, 0, 0, -1), y -> y.work(a, 0, 0, 16), y -> y.work(a, 0, 0, MIN), y -> y.work(a, 0, 0, MAX), y -> y.work(a, 0, 1, 16));
        }
    }

    private static void workNothing() {
        sentence("Promise 17: work", "NOTHING; WIDE.");
        for (int act = 0; act < 3; act++) {
            int a = act;
            refused(Checks::some, NOTHING, y -> y.work(a, 0, 1, 7), y -> y.work(a, 0, 7, 1), y -> y.work(a, 2, 1, 1), y -> y.work(a, 1, 1, 0));
        }
        refused(Checks::some, NOTHING, y -> y.work(3, 0, 1, 7), y -> y.work(3, 1, 1, 1), y -> y.work(3, 0, 14, 99));
        // PLACE p is not asked: it may hold nothing
        TailBounds x = new TailBounds();
        some(x);
        for (int act = 0; act < 4; act++) {
            due(x.free(1), act == 0 ? 0 : 1);
            due(x.work(act, 1, 0, 7), 1);
        }
    }

    private static void workOntoItself() {
        sentence("Promise 17: work", "PLACE p holds q and r together (act 0), q times r (1)");
        TailBounds x = new TailBounds();
        x.set(0, 2, 3);
        x.set(1, 1, 2);
        due(x.work(0, 0, 0, 1), 1);
        holds(x, 0, 7, 6);
        due(x.work(1, 0, 1, 0), 1);
        holds(x, 0, 7, 12);
        due(x.work(2, 0, 0, 1), 1);
        holds(x, 0, 1, 2);
        due(x.work(0, 0, 0, 0), 1);
        holds(x, 0, 1, 1);
        due(x.work(3, 0, 0, 0), 1);
        holds(x, 0, 0, 1);
        due(x.work(1, 0, 0, 0), 1);
        holds(x, 0, 0, 1);
        holds(x, 1, 1, 2);
    }

    // ---- promise 18

    private static void orderEdges() {
        sentence("Promise 18: order", "0: what p holds is below what q holds, 1 alike, 2 above.");
        TailBounds x = new TailBounds();
        x.set(0, MAX - 1, MAX);
        x.set(1, MAX - 2, MAX - 1);
        x.set(2, 0, 1);
        x.set(3, 0, MAX);
        x.set(4, 1, MAX);
        due(x.order(0, 1), 2);
        due(x.order(1, 0), 0);
        due(x.order(0, 0), 1);
        due(x.order(2, 3), 1);
        due(x.order(2, 4), 0);
        due(x.order(4, 3), 2);
        // 2^1024 - 1 and one less, 1 / 2^1023 and 1 / 2^1022
        allOnes(x, 5, 6, 10);
        inversePower(x, 7, 8, 1023);
        due(x.work(0, 9, 7, 7), 1);
        due(x.order(5, 7), 2);
        due(x.order(7, 5), 0);
        due(x.order(5, 5), 1);
        due(x.order(7, 9), 0);
        due(x.order(9, 7), 2);
        due(x.order(2, 7), 0);
        x.work(3, 10, 7, 0);
        x.work(3, 11, 9, 0);
        due(x.order(10, 11), 2);
        due(x.order(11, 10), 0);
        due(x.order(10, 10), 1);
    }

    private static void orderBadAndNothing() {
        sentence("Promise 18: order", "2 above. BAD; NOTHING.");
        refused(Checks::some, BAD, y -> y.order(-1, 0), y -> y.order(0, -1), y -> y.order(16, 0), y -> y.order(0, 16), y -> y.order(MIN, 0), y -> y.order(0, MAX),
            y -> y.order(1, 16), y -> y.order(16, 1), y -> y.order(1, -1));
        refused(Checks::some, NOTHING, y -> y.order(1, 0), y -> y.order(0, 1), y -> y.order(1, 1), y -> y.order(1, 2), y -> y.order(0, 14));
    }

    // ---- promises 19 and 20

    private static void limbsEdges() {
        sentence("Promise 19: limbs", "How many LIMBS ABOVE (part 0), BELOW (1) of a PLACE has.");
        TailBounds x = new TailBounds();
        x.set(0, 0, MAX);
        due(x.limbs(0, 0), 0);
        due(x.limbs(0, 1), 1);
        int[] powers = {31, 32, 63, 64, 991, 992, 1023};
        for (int n : powers) {
            power(x, 1, n);
            due(x.limbs(1, 0), n / 32 + 1);
            due(x.limbs(1, 1), 1);
            inversePower(x, 1, 2, n);
            due(x.limbs(1, 0), 1);
            due(x.limbs(1, 1), n / 32 + 1);
        }
    }

    private static void limbsBadAndNothing() {
        sentence("Promise 19: limbs", "BAD; NOTHING.");
        refused(Checks::some, BAD, y -> y.limbs(-1, 0), y -> y.limbs(16, 0), y -> y.limbs(MIN, 0), y -> y.limbs(MAX, 1), y -> y.limbs(0, -1), y -> y.limbs(0, 2),
            y -> y.limbs(0, MIN), y -> y.limbs(0, MAX), y -> y.limbs(1, 2), y -> y.limbs(1, -1));
        refused(Checks::some, NOTHING, y -> y.limbs(1, 0), y -> y.limbs(1, 1), y -> y.limbs(14, 0));
    }

    private static void limbHighest() {
        sentence("Promise 20: limb", "LIMB i, 0 .. 4294967295.");
        TailBounds x = new TailBounds();
        allOnes(x, 0, 1, 6);
        due(x.limb(0, 0, 0), 4294967295L);
        due(x.limb(0, 0, 1), 4294967295L);
        power(x, 0, 63);
        due(x.limb(0, 0, 0), 0);
        due(x.limb(0, 0, 1), 2147483648L);
        x.set(0, MAX, 1);
        due(x.limb(0, 0, 0), MAX);
        x.set(0, 1, MAX);
        due(x.limb(0, 1, 0), MAX);
        due(x.limb(0, 0, 0), 1);
        inversePower(x, 0, 1, 1023);
        due(x.limb(0, 1, 31), 2147483648L);
        due(x.limb(0, 1, 30), 0);
    }

    private static void limbBadAndNothing() {
        sentence("Promise 20: limb", "BAD: PLACE, part; NOTHING");
        refused(Checks::some, BAD, y -> y.limb(-1, 0, 0), y -> y.limb(16, 0, 0), y -> y.limb(MIN, 0, 0), y -> y.limb(MAX, 0, 0), y -> y.limb(0, -1, 0),
            y -> y.limb(0, 2, 0), y -> y.limb(0, MIN, 0), y -> y.limb(0, MAX, 0), y -> y.limb(1, 2, 0), y -> y.limb(16, 0, -1), y -> y.limb(0, 2, 99));
        refused(Checks::some, NOTHING, y -> y.limb(1, 0, 0), y -> y.limb(1, 1, 0), y -> y.limb(1, 0, -1), y -> y.limb(1, 0, 32), y -> y.limb(1, 0, MAX));
    }

    private static void limbNone() {
        sentence("Promise 20: limb", "NONE: there is none such.");
        // 2 / 3 lies in PLACE 0
        refused(Checks::some, NONE, y -> y.limb(0, 0, 1), y -> y.limb(0, 1, 1), y -> y.limb(0, 0, -1), y -> y.limb(0, 1, -1), y -> y.limb(0, 0, 32),
            y -> y.limb(0, 0, MIN), y -> y.limb(0, 0, MAX));
        TailBounds x = new TailBounds();
        allOnes(x, 0, 1, 10);
        due(x.limb(0, 0, 31), 4294967295L);
        due(x.limb(0, 0, 32), NONE);
        // what was there before does not show
        x.set(0, 5, 1);
        due(x.limb(0, 0, 0), 5);
        due(x.limb(0, 0, 1), NONE);
        due(x.limb(0, 0, 31), NONE);
        x.set(0, 0, 1);
        due(x.limb(0, 0, 0), NONE);
    }

    // ---- promise 21

    private static void digitsFrom0To18() {
        sentence("Promise 21: digits", "What a PLACE holds times 10 to the power of n (0 .. 18)");
        TailBounds x = new TailBounds();
        x.set(0, 1, 1);
        long ten = 1;
        for (int n = 0; n <= 18; n++) {
            due(x.digits(0, n), ten);
            ten *= 10;
        }
        refused(Checks::some, BAD, y -> y.digits(0, -1), y -> y.digits(0, 19), y -> y.digits(0, MIN), y -> y.digits(0, MAX));
    }

    private static void digitsCutOff() {
        sentence("Promise 21: digits", "cut off.");
        TailBounds x = new TailBounds();
        x.set(0, MAX - 1, MAX);
        due(x.digits(0, 0), 0);
        due(x.digits(0, 9), 999999999L);
        due(x.digits(0, 10), 9999999995L);
        x.set(0, 1, MAX);
        due(x.digits(0, 9), 0);
        due(x.digits(0, 10), 4);
        x.set(0, 0, 1);
        due(x.digits(0, 0), 0);
        due(x.digits(0, 18), 0);
        x.set(0, 5, 3);
        due(x.digits(0, 0), 1);
        due(x.digits(0, 18), 1666666666666666666L);
        // the least and the nearest to 1 that a PLACE can hold
        inversePower(x, 1, 2, 1023);
        due(x.digits(1, 18), 0);
        x.work(3, 1, 1, 0);
        due(x.digits(1, 0), 0);
        due(x.digits(1, 18), 999999999999999999L);
    }

    private static void digitsNoLong() {
        sentence("Promise 21: digits", "WIDE: it is no long.");
        TailBounds x = new TailBounds();
        power(x, 0, 63);
        due(x.digits(0, 0), WIDE);
        power(x, 0, 62);
        due(x.digits(0, 0), 1L << 62);
        // 2^63 less 1 is the last that is one, and so is that and a half, cut off
        x.set(1, 1, 2);
        lastLong(x, 5);
        due(x.digits(5, 0), Long.MAX_VALUE);
        due(x.digits(5, 1), WIDE);
        x.work(0, 6, 5, 1);
        due(x.digits(6, 0), Long.MAX_VALUE);
        x.work(0, 6, 6, 1);
        due(x.digits(6, 0), WIDE);
        // the same with 18 digits behind: by 10^18
        x.set(7, 1, 1000000000);
        x.work(1, 8, 5, 7);
        x.work(1, 8, 8, 7);
        due(x.digits(8, 18), Long.MAX_VALUE);
        due(x.digits(8, 0), 9);
        x.set(9, 1, 1);
        x.work(0, 10, 5, 9);
        x.work(1, 10, 10, 7);
        x.work(1, 10, 10, 7);
        due(x.digits(10, 18), WIDE);
        due(x.digits(10, 17), 922337203685477580L);
        x.set(11, 10, 1);
        due(x.digits(11, 17), 1000000000000000000L);
        due(x.digits(11, 18), WIDE);
        allOnes(x, 12, 13, 10);
        due(x.digits(12, 0), WIDE);
        due(x.digits(12, 18), WIDE);
        refused(y -> power(y, 0, 63), WIDE, y -> y.digits(0, 0), y -> y.digits(0, 18));
    }

    /** A PLACE holds 2^63 - 1: 62 times the double and 1 more. PLACE 14 is used for it and emptied. */
    private static void lastLong(TailBounds x, int p) {
        x.set(p, 1, 1);
        x.set(14, 1, 1);
        for (int i = 1; i < 63; i++) {
            x.work(0, p, p, p);
            x.work(0, p, p, 14);
        }
        x.free(14);
    }

    private static void digitsBadAndNothing() {
        sentence("Promise 21: digits", "BAD; NOTHING; WIDE");
        refused(Checks::some, BAD, y -> y.digits(-1, 0), y -> y.digits(16, 0), y -> y.digits(MIN, 0), y -> y.digits(MAX, 0), y -> y.digits(1, 19), y -> y.digits(1, -1));
        refused(Checks::some, NOTHING, y -> y.digits(1, 0), y -> y.digits(1, 18), y -> y.digits(14, 9));
    }

    // ---- promise 22

    private static void freeEdges() {
        sentence("Promise 22: free", "A PLACE holds nothing: 1, 0 if it did not.");
        TailBounds x = new TailBounds();
        for (int p = 0; p < 16; p++) {
            due(x.free(p), 0);
            x.set(p, 0, 1);
        }
        for (int p = 0; p < 16; p++) {
            due(x.free(p), 1);
            due(x.count(2), 15 - p);
            due(x.limbs(p, 0), NOTHING);
            due(x.free(p), 0);
        }
        due(x.set(0, 3, 4), 1);
        holds(x, 0, 3, 4);
    }

    private static void freeBad() {
        sentence("Promise 22: free", "0 if it did not. BAD.");
        refused(Checks::some, BAD, y -> y.free(-1), y -> y.free(16), y -> y.free(MIN), y -> y.free(MAX));
        // where there was nothing, nothing changes either
        refused(Checks::some, 0, y -> y.free(1), y -> y.free(14));
    }
}
