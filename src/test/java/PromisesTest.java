import java.io.IOException;

/** For each promise of the document its ordinary inputs, its edges and its wrong inputs, reckoned by hand. */
public final class PromisesTest extends Checks {
    private PromisesTest() {
    }

    public static void main(String[] args) throws IOException {
        readDocument();
        aNewObject();
        weight();
        wipe();
        coins();
        drawn();
        sums();
        both();
        held();
        source();
        counted();
        set();
        mean();
        moment();
        tail();
        bound();
        base();
        work();
        order();
        limbs();
        limb();
        digits();
        free();
        coin();
        needed();
        line();
        crossed();
        count();
        everyPromise();
        if (!end("promises")) {
            System.exit(1);
        }
    }

    private static TailBounds begin(String heading) {
        heading(heading);
        return new TailBounds();
    }

    private static void fill(TailBounds x) {
        for (int i = x.count(0); i < 16; i++) {
            due(x.coins(0, 0, 1), i);
        }
    }

    private static void aNewObject() {
        TailBounds x = begin("Promise 1: A new object");
        for (int what = 0; what < 3; what++) {
            due(x.count(what), 0);
        }
        for (int p = 0; p < 16; p++) {
            due(x.limbs(p, 0), NOTHING);
        }
        due(x.base(), 0);
        due(x.source(0, 0), BAD);
        due(x.sums(1), BAD);
        // THE COIN is 1 / 2, THE LINE is i: only a row of a alone is CROSSED
        due(x.crossed(0, 2, 3), 1);
        holds(x, 0, 7, 8);
        TailBounds y = new TailBounds();
        due(y.count(2), 0);
    }

    private static void weight() {
        TailBounds x = begin("Promise 2: weight");
        due(x.weight(-1), BAD);
        due(x.weight(1001), BAD);
        due(x.weight(Integer.MIN_VALUE), BAD);
        due(x.weight(Integer.MAX_VALUE), BAD);
        due(x.count(1), 0);
        due(x.weight(0), 1);
        due(x.weight(1000), 2);
        for (int i = 3; i <= 8; i++) {
            due(x.weight(i), i);
        }
        due(x.weight(1), FULL);
        due(x.weight(1001), BAD);
        due(x.count(1), 8);
    }

    private static void wipe() {
        TailBounds x = begin("Promise 3: wipe");
        due(x.wipe(), 0);
        x.weight(1);
        x.weight(2);
        due(x.sums(2), 0);
        due(x.wipe(), 2);
        due(x.wipe(), 0);
        due(x.sums(2), BAD);
        counts(x, 0, 1, 4, 4);
        due(x.weight(5), 1);
        due(x.sums(1), 1);
        counts(x, 1, 5);
        counts(x, 0, 1, 4, 4);
    }

    private static void coins() {
        TailBounds x = begin("Promise 4: coins");
        due(x.coins(2, 1, 3), 0);
        counts(x, 0, 4, 4, 1);
        due(x.coins(3, 0, 5), 1);
        counts(x, 1, 125, 0, 0, 0);
        due(x.coins(3, 5, 5), 2);
        counts(x, 2, 0, 0, 0, 125);
        due(x.coins(0, 0, 1), 3);
        counts(x, 3, 1);
        due(x.coins(0, 60, 60), 4);
        counts(x, 4, 1);
        due(x.coins(4, 2, 4), 5);
        counts(x, 5, 16, 64, 96, 64, 16);
        due(x.coins(40, 60, 60), 6);
        due(x.source(6, 2), 237);
        int[][] bad = {{-1, 1, 2}, {41, 1, 2}, {1, 0, 0}, {1, 0, 61}, {1, -1, 2}, {1, 3, 2}, {1, 1, -1}};
        for (int[] b : bad) {
            due(x.coins(b[0], b[1], b[2]), BAD);
        }
        due(x.count(0), 7);
        fill(x);
        due(x.coins(1, 1, 2), FULL);
        due(x.coins(41, 1, 2), BAD);
        due(x.count(0), 16);
    }

    private static void drawn() {
        TailBounds x = begin("Promise 5: drawn");
        due(x.drawn(5, 2, 3), 0);
        counts(x, 0, 1, 6, 3, 0);
        due(x.drawn(5, 4, 3), 1);
        counts(x, 1, 0, 0, 6, 4);
        due(x.drawn(1, 0, 0), 2);
        counts(x, 2, 1);
        due(x.drawn(3, 3, 3), 3);
        counts(x, 3, 0, 0, 0, 1);
        due(x.drawn(60, 60, 60), 4);
        due(x.source(4, 3), 60);
        due(x.drawn(60, 30, 30), 5);
        due(x.source(5, 2), 57);
        due(x.drawn(60, 30, 60), 6);
        due(x.source(6, 2), 1);
        int[][] bad = {{0, 0, 0}, {61, 1, 1}, {5, -1, 1}, {5, 6, 1}, {5, 1, -1}, {5, 1, 6}, {-3, 0, 0}};
        for (int[] b : bad) {
            due(x.drawn(b[0], b[1], b[2]), BAD);
        }
        fill(x);
        due(x.drawn(5, 2, 3), FULL);
        due(x.drawn(5, 2, 6), BAD);
    }

    private static void sums() {
        TailBounds x = begin("Promise 6: sums");
        due(x.sums(0), BAD);
        x.weight(0);
        due(x.sums(2), BAD);
        x.weight(1);
        x.weight(2);
        due(x.sums(2), 0);
        counts(x, 0, 0, 0, 1, 4, 4);
        due(x.sums(0), 1);
        counts(x, 1, 1);
        due(x.sums(-1), BAD);
        due(x.sums(13), BAD);
        x.wipe();
        x.weight(7);
        due(x.sums(3), 2);
        counts(x, 2, 343);
        for (int i = 0; i < 7; i++) {
            x.weight(1000);
        }
        due(x.sums(12), 3);
        due(x.source(3, 1), 84);
        counts(x, 0, 0, 0, 1, 4, 4);
        fill(x);
        due(x.sums(1), FULL);
        due(x.sums(13), BAD);
        x.wipe();
        due(x.sums(1), BAD);
    }

    private static void both() {
        TailBounds x = begin("Promise 7: both");
        due(x.both(0, 0), BAD);
        due(x.coins(2, 1, 2), 0);
        due(x.drawn(5, 2, 3), 1);
        due(x.both(0, 1), 2);
        counts(x, 2, 1, 8, 16, 12, 3, 0);
        due(x.both(0, 0), 3);
        counts(x, 3, 1, 4, 6, 4, 1);
        due(x.both(-1, 0), BAD);
        due(x.both(0, 4), BAD);
        due(x.both(Integer.MAX_VALUE, 0), BAD);
        due(x.coins(40, 1, 2), 4);
        due(x.both(4, 4), 5);
        due(x.both(5, 4), 6);
        due(x.source(6, 1), 120);
        due(x.coins(1, 1, 2), 7);
        due(x.both(6, 7), BAD);
        due(x.coins(0, 1, 2), 8);
        due(x.both(8, 6), 9);
        due(x.coins(40, 5, 32), 10);
        due(x.coins(11, 3, 32), 11);
        due(x.both(10, 11), 12);
        due(x.source(12, 2), 256);
        due(x.both(12, 7), WIDE);
        due(x.count(0), 13);
        due(x.both(12, 8), 13);
        fill(x);
        due(x.both(0, 0), FULL);
        due(x.both(12, 7), FULL);
        due(x.both(6, 7), BAD);
    }

    private static void held() {
        TailBounds x = begin("Promise 8: held");
        due(x.held(0, 0, 0), BAD);
        due(x.coins(4, 1, 2), 0);
        due(x.held(0, 1, 3), 1);
        counts(x, 1, 0, 5, 6, 5, 0);
        due(x.held(0, 0, 4), 2);
        counts(x, 2, 1, 4, 6, 4, 1);
        due(x.held(0, 0, 0), 3);
        counts(x, 3, 16, 0, 0, 0, 0);
        due(x.held(0, 4, 4), 4);
        counts(x, 4, 0, 0, 0, 0, 16);
        due(x.held(1, 2, 4), 5);
        counts(x, 5, 0, 0, 11, 5, 0);
        int[][] bad = {{-1, 0, 0}, {6, 0, 0}, {0, -1, 2}, {0, 0, 5}, {0, 3, 2}, {0, 5, 5}};
        for (int[] b : bad) {
            due(x.held(b[0], b[1], b[2]), BAD);
        }
        fill(x);
        due(x.held(0, 1, 3), FULL);
        due(x.held(0, 3, 1), BAD);
    }

    private static void source() {
        TailBounds x = begin("Promise 9: source");
        due(x.source(0, 0), BAD);
        x.weight(3);
        x.weight(0);
        x.weight(1);
        x.coins(3, 1, 4);
        x.drawn(6, 1, 2);
        x.sums(2);
        x.both(0, 1);
        x.held(2, 1, 2);
        int[][] want = {{0, 3, 7, 0}, {1, 2, 4, 1}, {2, 4, 5, 2}, {3, 5, 10, 1}, {4, 4, 5, 3}};
        for (int s = 0; s < 5; s++) {
            for (int what = 0; what < 4; what++) {
                due(x.source(s, what), want[s][what]);
            }
        }
        due(x.source(5, 0), BAD);
        due(x.source(-1, 0), BAD);
        due(x.source(0, -1), BAD);
        due(x.source(0, 4), BAD);
    }

    private static void counted() {
        TailBounds x = begin("Promise 10: counted");
        due(x.counted(0, 0), BAD);
        x.coins(3, 2, 3);
        int[] rows = {27, 26, 20, 8, 0};
        for (int k = 0; k < rows.length; k++) {
            due(x.counted(0, k), rows[k]);
        }
        due(x.counted(0, 120), 0);
        due(x.counted(0, 121), BAD);
        due(x.counted(0, -1), BAD);
        due(x.counted(1, 0), BAD);
        x.coins(3, 1, 27);
        due(x.counted(1, 0), 19683);
        x.coins(3, 1, 28);
        due(x.counted(2, 0), NONE);
        due(x.counted(2, 121), BAD);
        x.weight(100);
        x.weight(41);
        x.sums(2);
        due(x.counted(3, 0), 19881);
        due(x.counted(3, 1), 9881);
        due(x.counted(3, 2), 1681);
        x.weight(1);
        x.sums(2);
        due(x.counted(4, 0), NONE);
        due(x.counted(3, 0), 19881);
        x.drawn(3, 1, 1);
        due(x.counted(5, 0), NONE);
        x.both(0, 0);
        due(x.counted(6, 0), NONE);
        x.held(0, 1, 1);
        due(x.counted(7, 0), NONE);
        x.coins(40, 0, 1);
        due(x.counted(8, 0), 1);
        due(x.counted(8, 1), 0);
        x.coins(40, 1, 60);
        due(x.counted(9, 0), NONE);
    }

    private static void set() {
        TailBounds x = begin("Promise 11: set");
        due(x.set(0, 6, 4), 1);
        holds(x, 0, 3, 2);
        due(x.set(0, 0, 9), 1);
        holds(x, 0, 0, 1);
        due(x.set(15, Integer.MAX_VALUE, Integer.MAX_VALUE), 1);
        holds(x, 15, 1, 1);
        due(x.set(15, Integer.MAX_VALUE, 2), 1);
        holds(x, 15, Integer.MAX_VALUE, 2);
        int[][] bad = {{-1, 1, 1}, {16, 1, 1}, {15, -1, 1}, {15, 1, 0}, {15, 1, -1}, {15, Integer.MIN_VALUE, Integer.MIN_VALUE}};
        for (int[] b : bad) {
            due(x.set(b[0], b[1], b[2]), BAD);
        }
        holds(x, 15, Integer.MAX_VALUE, 2);
        due(x.count(2), 2);
    }

    private static void mean() {
        TailBounds x = begin("Promise 12: mean");
        due(x.mean(0, 0), BAD);
        x.coins(5, 2, 3);
        due(x.mean(0, 0), 1);
        holds(x, 0, 10, 3);
        x.coins(5, 0, 3);
        due(x.mean(0, 1), 1);
        holds(x, 0, 0, 1);
        x.drawn(10, 4, 5);
        due(x.mean(0, 2), 1);
        holds(x, 0, 2, 1);
        x.both(0, 2);
        due(x.mean(1, 3), 1);
        holds(x, 1, 16, 3);
        x.held(2, 2, 3);
        // of COUNTS 6, 60, 120, 60, 6 it makes 186 at 2 and 66 at 3: 570 / 252
        due(x.mean(2, 4), 1);
        holds(x, 2, 95, 42);
        due(x.mean(-1, 0), BAD);
        due(x.mean(16, 0), BAD);
        due(x.mean(0, 5), BAD);
        due(x.mean(0, -1), BAD);
        holds(x, 1, 16, 3);
    }

    private static void wideSources(TailBounds x) {
        for (int i = 0; i < 8; i++) {
            x.weight(i == 0 ? 999 : i == 7 ? 1000 : 0);
        }
        due(x.sums(12), 0);
        due(x.coins(21, 29, 60), 1);
        due(x.both(0, 1), 2);
        due(x.held(2, 10, 100), 3);
        due(x.source(3, 2), 256);
    }

    private static void moment() {
        TailBounds x = begin("Promise 13: moment");
        x.coins(4, 1, 2);
        due(x.moment(0, 0, 2), 1);
        holds(x, 0, 1, 1);
        due(x.moment(0, 0, 4), 1);
        holds(x, 0, 5, 2);
        x.coins(3, 1, 3);
        due(x.moment(0, 1, 2), 1);
        holds(x, 0, 2, 3);
        due(x.moment(0, 1, 4), 1);
        // 8 + 0 + 6 + 16, of 27
        holds(x, 0, 10, 9);
        x.coins(7, 3, 3);
        due(x.moment(0, 2, 4), 1);
        holds(x, 0, 0, 1);
        for (int n = -1; n < 7; n++) {
            due(x.moment(0, 0, n), n == 2 || n == 4 ? 1 : BAD);
        }
        due(x.moment(16, 0, 2), BAD);
        due(x.moment(-1, 0, 2), BAD);
        due(x.moment(0, 3, 2), BAD);
        TailBounds y = new TailBounds();
        wideSources(y);
        due(y.set(0, 1, 3), 1);
        due(y.moment(0, 3, 4), WIDE);
        holds(y, 0, 1, 3);
        due(y.moment(1, 3, 4), WIDE);
        due(y.limbs(1, 0), NOTHING);
        due(y.moment(0, 3, 2), 1);
        due(y.moment(0, 2, 4), 1);
    }

    private static void tail() {
        TailBounds x = begin("Promise 14: tail");
        x.coins(4, 1, 2);
        int[][] above = {{1, 15, 11, 5, 1, 0}, {1, 5, 11, 15, 1, 1}, {2, 10, 16, 10, 2, 0}};
        int[][] below = {{1, 16, 16, 16, 16, 1}, {16, 16, 16, 16, 1, 1}, {16, 16, 16, 16, 16, 1}};
        for (int side = 0; side < 3; side++) {
            for (int k = 0; k < 6; k++) {
                due(x.tail(3, 0, k, side), 1);
                share(x, 3, above[side][k], below[side][k]);
            }
        }
        // the MEAN is 4 / 3: 0 is as far as 8 / 3, 1 nearest, 2 is farther than 1
        x.coins(4, 1, 3);
        int[] far = {16 + 8 + 1, 81, 16 + 24 + 8 + 1, 8 + 1, 1};
        for (int k = 0; k < far.length; k++) {
            due(x.tail(3, 1, k, 2), 1);
            share(x, 3, far[k], 81);
        }
        due(x.tail(3, 0, 120, 0), 1);
        holds(x, 3, 0, 1);
        due(x.tail(3, 0, 120, 1), 1);
        holds(x, 3, 1, 1);
        int[][] bad = {{-1, 0, 1, 0}, {16, 0, 1, 0}, {3, 2, 1, 0}, {3, -1, 1, 0}, {3, 0, -1, 0}, {3, 0, 121, 0}, {3, 0, 1, -1}, {3, 0, 1, 3}};
        for (int[] b : bad) {
            due(x.tail(b[0], b[1], b[2], b[3]), BAD);
        }
        holds(x, 3, 1, 1);
    }

    private static void bound() {
        TailBounds x = begin("Promise 15: bound");
        x.coins(4, 1, 2);
        long[][] at4 = {{1, 2}, {1, 4}, {5, 32}, {1, 5}, {16, 81}};
        for (int kind = 0; kind < 5; kind++) {
            due(x.bound(kind, 0, 4, kind), 1);
            holds(x, kind, at4[kind][0], at4[kind][1]);
            for (int k = 0; k < 3; k++) {
                due(x.bound(kind, 0, k, kind), 1);
                holds(x, kind, 1, 1);
            }
        }
        // KINDS 1 and 2 come to 1 and more, right above the MEAN
        long[][] at3 = {{2, 3}, {1, 1}, {1, 1}, {1, 2}, {16, 27}};
        for (int kind = 0; kind < 5; kind++) {
            due(x.bound(kind, 0, 3, kind), 1);
            holds(x, kind, at3[kind][0], at3[kind][1]);
        }
        x.coins(10, 1, 2);
        due(x.bound(0, 1, 6, 4), 1);
        holds(x, 0, 9765625, 11943936);
        x.coins(3, 0, 7);
        for (int kind = 0; kind < 4; kind++) {
            due(x.bound(kind, 2, 1, kind), 1);
            holds(x, kind, 0, 1);
        }
        due(x.bound(4, 2, 1, 4), 1);
        holds(x, 4, 1, 3);
        due(x.bound(4, 2, 0, 0), 1);
        holds(x, 4, 1, 1);
        int[][] bad = {{-1, 0, 1, 0}, {16, 0, 1, 0}, {3, 3, 1, 0}, {3, -1, 1, 0}, {3, 0, -1, 0}, {3, 0, 121, 0}, {3, 0, 1, -1}, {3, 0, 1, 5}};
        for (int[] b : bad) {
            due(x.bound(b[0], b[1], b[2], b[3]), BAD);
        }
        holds(x, 3, 0, 1);
        wideBound();
    }

    private static void wideBound() {
        TailBounds y = new TailBounds();
        wideSources(y);
        due(y.set(0, 1, 3), 1);
        due(y.bound(0, 3, 120, 2), WIDE);
        holds(y, 0, 1, 3);
        for (int kind = 0; kind < 5; kind++) {
            due(y.bound(1, 3, 120, kind), kind == 2 ? WIDE : 1);
        }
        // above 1 it is 1, however wide
        due(y.mean(2, 3), 1);
        due(y.bound(0, 3, (int) y.digits(2, 0) + 1, 2), 1);
        holds(y, 0, 1, 1);
    }

    private static void base() {
        TailBounds x = begin("Promise 16: base");
        due(x.base(), 0);
        x.coins(10, 1, 2);
        x.coins(40, 1, 2);
        due(x.bound(0, 0, 6, 3), 1);
        due(x.base(), 0);
        due(x.bound(0, 0, 6, 4), 1);
        due(x.base(), 6);
        due(x.bound(0, 0, 8, 3), 1);
        due(x.base(), 6);
        due(x.bound(0, 0, 121, 4), BAD);
        due(x.base(), 6);
        // the least, 1.125^40 / 1.25^21, is above 1
        due(x.bound(0, 1, 21, 4), 1);
        holds(x, 0, 1, 1);
        due(x.base(), 5);
        due(x.bound(0, 0, 5, 4), 1);
        due(x.base(), 0);
        due(x.bound(0, 0, 10, 4), 1);
        due(x.base(), 12);
        // (15 / t + 8 t) / 23 is the same at 5 / 4 and at 6 / 4: the first of them counts
        x.weight(15);
        x.weight(0);
        x.weight(8);
        due(x.sums(1), 2);
        due(x.bound(0, 2, 1, 4), 1);
        holds(x, 0, 22, 23);
        due(x.base(), 5);
    }

    private static void work() {
        TailBounds x = begin("Promise 17: work");
        x.set(0, 1, 6);
        x.set(1, 3, 10);
        due(x.work(0, 2, 0, 1), 1);
        holds(x, 2, 7, 15);
        due(x.work(1, 2, 0, 1), 1);
        holds(x, 2, 1, 20);
        due(x.work(2, 2, 0, 1), 1);
        holds(x, 2, 1, 6);
        due(x.work(2, 2, 1, 0), 1);
        holds(x, 2, 1, 6);
        due(x.work(3, 2, 1, -77), 1);
        holds(x, 2, 7, 10);
        x.set(3, 7, 7);
        due(x.work(3, 4, 3, 0), 1);
        holds(x, 4, 0, 1);
        x.set(3, 8, 7);
        due(x.work(3, 4, 3, 9), 1);
        holds(x, 4, 0, 1);
        due(x.work(3, 4, 4, 9), 1);
        holds(x, 4, 1, 1);
        due(x.work(0, 0, 0, 0), 1);
        holds(x, 0, 1, 3);
        int[][] bad = {{-1, 0, 0, 0}, {4, 0, 0, 0}, {0, -1, 0, 0}, {0, 16, 0, 0}, {0, 0, -1, 0}, {0, 0, 16, 0}, {0, 0, 0, 16}, {2, 0, 0, -1}, {0, 0, 9, 16}, {3, 0, 16, 0}, {3, 16, 0, 0}};
        for (int[] b : bad) {
            due(x.work(b[0], b[1], b[2], b[3]), BAD);
        }
        due(x.work(0, 0, 9, 0), NOTHING);
        due(x.work(1, 0, 0, 9), NOTHING);
        due(x.work(2, 0, 9, 9), NOTHING);
        due(x.work(3, 0, 9, 0), NOTHING);
        due(x.work(0, 9, 0, 1), 1);
        holds(x, 9, 19, 30);
        wideWork();
    }

    private static void wideWork() {
        TailBounds x = new TailBounds();
        x.set(0, 2, 1);
        for (int i = 0; i < 9; i++) {
            due(x.work(1, 0, 0, 0), 1);
        }
        // 2^512 times 2^511 has 1024 bits
        x.set(1, 1, 2);
        x.work(1, 2, 0, 1);
        due(x.work(1, 3, 0, 2), 1);
        due(x.limbs(3, 0), 32);
        due(x.limb(3, 0, 31), 2147483648L);
        due(x.work(1, 3, 0, 0), WIDE);
        due(x.work(0, 3, 3, 3), WIDE);
        due(x.limb(3, 0, 31), 2147483648L);
        // 1 / 2^1023: ten times the square of it, and a half of that
        x.set(4, 1, 1);
        for (int i = 0; i < 10; i++) {
            due(x.work(1, 4, 4, 4), 1);
            due(x.work(1, 4, 4, 1), 1);
        }
        due(x.limbs(4, 1), 32);
        due(x.work(1, 4, 4, 1), WIDE);
        // too wide on the way only
        due(x.work(1, 5, 3, 4), 1);
        holds(x, 5, 1, 1);
        due(x.work(3, 5, 4, 0), 1);
        due(x.work(0, 5, 5, 4), 1);
        holds(x, 5, 1, 1);
        due(x.work(0, 5, 3, 4), WIDE);
        holds(x, 5, 1, 1);
        due(x.work(2, 5, 3, 4), 1);
        due(x.order(5, 4), 1);
    }

    private static void order() {
        TailBounds x = begin("Promise 18: order");
        x.set(0, 2, 3);
        x.set(1, 5, 7);
        x.set(2, 10, 14);
        due(x.order(0, 1), 0);
        due(x.order(1, 0), 2);
        due(x.order(1, 2), 1);
        due(x.order(0, 0), 1);
        x.set(3, 0, 4);
        due(x.order(3, 0), 0);
        due(x.order(0, 3), 2);
        due(x.order(3, 3), 1);
        x.set(4, 2147483646, 2147483647);
        x.set(5, 2147483645, 2147483646);
        due(x.order(4, 5), 2);
        due(x.order(-1, 0), BAD);
        due(x.order(0, 16), BAD);
        due(x.order(9, 16), BAD);
        due(x.order(9, 0), NOTHING);
        due(x.order(0, 9), NOTHING);
    }

    private static void limbs() {
        TailBounds x = begin("Promise 19: limbs");
        due(x.limbs(0, 0), NOTHING);
        due(x.limbs(0, 2), BAD);
        due(x.limbs(0, -1), BAD);
        due(x.limbs(-1, 0), BAD);
        due(x.limbs(16, 0), BAD);
        x.set(0, 0, 8);
        due(x.limbs(0, 0), 0);
        due(x.limbs(0, 1), 1);
        x.set(0, 65536, 1);
        x.work(1, 0, 0, 0);
        due(x.limbs(0, 0), 2);
        x.set(1, 1, 2);
        x.work(1, 0, 0, 1);
        due(x.limbs(0, 0), 1);
        x.free(0);
        due(x.limbs(0, 0), NOTHING);
    }

    private static void limb() {
        TailBounds x = begin("Promise 20: limb");
        due(x.limb(0, 0, 0), NOTHING);
        due(x.limb(0, 0, -1), NOTHING);
        due(x.limb(0, 2, 0), BAD);
        due(x.limb(0, -1, 0), BAD);
        due(x.limb(-1, 0, 0), BAD);
        due(x.limb(16, 0, 0), BAD);
        x.set(0, 2147483647, 1);
        x.work(0, 1, 0, 0);
        x.set(2, 1, 1);
        x.work(0, 1, 1, 2);
        due(x.limb(1, 0, 0), 4294967295L);
        due(x.limb(1, 0, 1), NONE);
        due(x.limb(1, 0, -1), NONE);
        due(x.limb(1, 0, Integer.MAX_VALUE), NONE);
        due(x.limb(1, 0, Integer.MIN_VALUE), NONE);
        due(x.limb(1, 1, 0), 1);
        x.work(1, 1, 1, 1);
        due(x.limb(1, 0, 0), 1);
        due(x.limb(1, 0, 1), 4294967294L);
        due(x.limb(1, 0, 2), NONE);
        x.set(3, 0, 1);
        due(x.limb(3, 0, 0), NONE);
    }

    private static void digits() {
        TailBounds x = begin("Promise 21: digits");
        due(x.digits(0, 0), NOTHING);
        due(x.digits(0, 19), BAD);
        due(x.digits(0, -1), BAD);
        due(x.digits(16, 0), BAD);
        due(x.digits(-1, 0), BAD);
        x.set(0, 2, 3);
        due(x.digits(0, 0), 0);
        due(x.digits(0, 1), 6);
        due(x.digits(0, 18), 666666666666666666L);
        x.set(0, 0, 3);
        due(x.digits(0, 18), 0);
        x.set(0, 9, 1);
        due(x.digits(0, 18), 9000000000000000000L);
        x.set(0, 10, 1);
        due(x.digits(0, 18), WIDE);
        // 2^63 is no long any more
        x.set(1, 1073741824, 1);
        x.work(1, 1, 1, 1);
        x.set(2, 8, 1);
        x.work(1, 1, 1, 2);
        due(x.digits(1, 0), WIDE);
        x.set(3, 1, 9);
        x.work(1, 4, 1, 3);
        due(x.digits(4, 0), 1024819115206086200L);
        due(x.digits(4, 1), WIDE);
        // but 2^63 - 1 is one, and so is that and a half, cut off
        x.set(5, 153092023, 1);
        x.set(6, 92737, 1);
        x.set(7, 649657, 1);
        x.work(1, 7, 6, 7);
        x.work(1, 7, 5, 7);
        due(x.digits(7, 0), Long.MAX_VALUE);
        x.set(6, 1, 2);
        x.work(0, 7, 6, 7);
        due(x.digits(7, 0), Long.MAX_VALUE);
        x.work(0, 7, 6, 7);
        due(x.digits(7, 0), WIDE);
        x.set(8, 2147483647, 1);
        for (int i = 0; i < 5; i++) {
            x.work(0, 8, 8, 8);
        }
        due(x.digits(8, 8), 6871947670400000000L);
        due(x.digits(8, 9), WIDE);
    }

    private static void free() {
        TailBounds x = begin("Promise 22: free");
        due(x.free(0), 0);
        x.set(0, 1, 2);
        x.set(15, 1, 2);
        due(x.free(0), 1);
        due(x.free(0), 0);
        due(x.limbs(0, 0), NOTHING);
        due(x.digits(15, 1), 5);
        due(x.free(15), 1);
        due(x.free(16), BAD);
        due(x.free(-1), BAD);
        due(x.count(2), 0);
        due(x.set(0, 3, 4), 1);
        holds(x, 0, 3, 4);
    }

    private static void coin() {
        TailBounds x = begin("Promise 23: coin");
        due(x.coin(2, 3), 1);
        x.line(0, 1, 1);
        x.crossed(0, 0, 1);
        holds(x, 0, 2, 3);
        int[][] bad = {{0, 0}, {0, 61}, {-1, 3}, {4, 3}, {1, -1}};
        for (int[] b : bad) {
            due(x.coin(b[0], b[1]), BAD);
        }
        x.crossed(0, 0, 1);
        holds(x, 0, 2, 3);
        due(x.coin(0, 1), 1);
        x.crossed(0, 0, 40);
        holds(x, 0, 0, 1);
        due(x.coin(60, 60), 1);
        x.crossed(0, 0, 40);
        holds(x, 0, 1, 1);
        due(x.coin(30, 60), 1);
        x.crossed(0, 2, 2);
        holds(x, 0, 3, 4);
    }

    private static void needed() {
        TailBounds x = begin("Promise 24: needed");
        // a half, width 1 / 2: 2 of 2^n rows are as far
        due(x.needed(0, 50, 1, 1024, 0), 11);
        due(x.needed(0, 50, 1, 1025, 0), 12);
        due(x.needed(0, 51, 0, 1, 0), 1);
        due(x.needed(0, 50, 0, 1, 0), NONE);
        // 1 / 4 / n by 1 / 4
        due(x.needed(1, 50, 1, 40, 0), 40);
        due(x.needed(1, 50, 1, 41, 0), NONE);
        due(x.needed(1, 50, 1, 1, 0), 1);
        due(x.needed(1, 50, 1, 3, 1), 3);
        // more than 1 counts as 1
        due(x.needed(1, 1, 1, 1, 1), 1);
        due(x.needed(1, 1, 999999, 1000000, 1), NONE);
        due(x.needed(0, 1, 1000000, 1, 1), 1);
        // width 1 / 4: shares 1, 1 / 2, 1 / 4, 5 / 8, 3 / 8, 7 / 32 of n = 1, 2, 3, 4, 5, 6; not all fall
        due(x.needed(0, 25, 1, 4, 0), 3);
        due(x.needed(0, 25, 1, 4, 1), 9);
        x.coin(0, 5);
        due(x.needed(0, 1, 0, 1, 1), 1);
        due(x.needed(1, 1, 0, 1, 1), 1);
        int[][] bad = {{-1, 1, 1, 1, 0}, {2, 1, 1, 1, 0}, {0, 0, 1, 1, 0}, {0, 101, 1, 1, 0}, {0, 1, -1, 1, 0}, {0, 1, 1000001, 1, 0},
            {0, 1, 1, 0, 0}, {0, 1, 1, 1000001, 0}, {0, 1, 1, 1, -1}, {0, 1, 1, 1, 2}};
        for (int[] b : bad) {
            due(x.needed(b[0], b[1], b[2], b[3], b[4]), BAD);
        }
    }

    private static void line() {
        TailBounds x = begin("Promise 25: line");
        due(x.line(0, 0, 1), 1);
        x.crossed(0, 1, 1);
        holds(x, 0, 1, 1);
        due(x.line(2, 0, 60), 1);
        x.crossed(0, 0, 2);
        holds(x, 0, 1, 4);
        int[][] bad = {{-1, 0, 1}, {61, 0, 1}, {0, -1, 1}, {0, 61, 1}, {0, 0, 0}, {0, 0, 61}, {0, 0, -1}};
        for (int[] b : bad) {
            due(x.line(b[0], b[1], b[2]), BAD);
        }
        x.crossed(0, 0, 2);
        holds(x, 0, 1, 4);
        due(x.line(60, 60, 60), 1);
        x.crossed(0, 2, 40);
        holds(x, 0, 0, 1);
        // 1 / 60 of a step is enough to lie above 0
        due(x.line(0, 1, 60), 1);
        x.crossed(0, 0, 1);
        holds(x, 0, 1, 2);
    }

    private static void crossed() {
        TailBounds x = begin("Promise 26: crossed");
        int[][] setups = {{1, 2, 0, 1, 2}, {1, 3, 1, 1, 3}, {2, 3, 2, 1, 2}, {3, 4, 1, 3, 5}, {0, 2, 0, 1, 7}, {2, 2, 3, 1, 4}, {1, 2, 0, 0, 9}};
        for (int[] s : setups) {
            x = new TailBounds();
            due(x.coin(s[0], s[1]), 1);
            due(x.line(s[2], s[3], s[4]), 1);
            for (int n = 1; n <= 7; n++) {
                throughAllRows(x, s, n);
            }
        }
        due(x.crossed(0, 0, 40), 1);
        holds(x, 0, 1, 1);
        due(x.set(0, 3, 7), 1);
        int[][] bad = {{-1, 0, 1}, {16, 0, 1}, {0, -1, 1}, {0, 3, 1}, {0, 0, 0}, {0, 0, 41}};
        for (int[] b : bad) {
            due(x.crossed(b[0], b[1], b[2]), BAD);
        }
        holds(x, 0, 3, 7);
    }

    /** Every row of n sides is gone through, so nothing of the way of the program is used here. */
    private static void throughAllRows(TailBounds x, int[] s, int n) {
        int rows = (int) Math.pow(s[1], n);
        int atSome = 0;
        int firstAtN = 0;
        int added = 0;
        for (int row = 0; row < rows; row++) {
            int first = 0;
            int h = 0;
            int left = row;
            for (int i = 1; i <= n; i++) {
                h += left % s[1] < s[0] ? 1 : 0;
                left /= s[1];
                if (h * s[4] >= s[2] * s[4] + s[3] * i) {
                    added++;
                    first = first == 0 ? i : first;
                }
            }
            atSome += first > 0 ? 1 : 0;
            firstAtN += first == n ? 1 : 0;
        }
        int[] want = {atSome, firstAtN, Math.min(added, rows)};
        for (int how = 0; how < 3; how++) {
            due(x.crossed(5, how, n), 1);
            share(x, 5, want[how], rows);
        }
    }

    private static void count() {
        TailBounds x = begin("Promise 27: count");
        x.weight(1);
        x.weight(1);
        x.weight(1);
        x.sums(1);
        x.coins(1, 1, 2);
        x.set(3, 1, 2);
        due(x.count(0), 2);
        due(x.count(1), 3);
        due(x.count(2), 1);
        due(x.count(3), BAD);
        due(x.count(-1), BAD);
        x.set(3, 1, 3);
        due(x.count(2), 1);
        for (int p = 0; p < 16; p++) {
            x.mean(p, 0);
        }
        due(x.count(2), 16);
        x.free(7);
        due(x.count(2), 15);
    }
}
