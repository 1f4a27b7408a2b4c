import java.math.BigInteger;
import java.util.ArrayList;
import java.util.List;
import java.util.Random;

/** Long runs of drawn calls, each answer held against a model that follows the document's words with BigInteger. */
public final class ModelTest {
    private static final int CALLS = 512;
    // A look at a PLACE asks for 32 LIMBS and one more on each side, and how many there are; three calls may stand ahead of it.
    private static final int DEAREST_STEP = 2 * 34 + 3;
    private static int wrong = 0;

    public static void main(String[] args) {
        int runs = args.length > 0 ? Integer.parseInt(args[0]) : 800;
        for (int run = 0; run < runs && wrong < 20; run++) {
            new Run(run).go();
        }
        System.out.println(wrong == 0 ? "model: all answers are alike" : "model: " + wrong + " answers differ");
        if (wrong != 0) {
            System.exit(1);
        }
    }

    /** One object and its model, driven by the same drawn calls. */
    private static final class Run {
        final int number;
        final Random random;
        final TailBounds real = new TailBounds();
        final Model model = new Model();
        int call = 0;
        int asked = 0;

        Run(int number) {
            this.number = number;
            this.random = new Random(77_000 + number);
        }

        void go() {
            for (call = 0; asked <= CALLS - DEAREST_STEP && wrong < 20; call++) {
                if (call < 13 && number % 6 == 1) {
                    buildWide();
                } else if (call < 13 && number % 6 == 4) {
                    buildFlat();
                } else if (call < 24 && number % 3 != 0) {
                    build();
                } else if (number % 3 == 1 && random.nextInt(6) == 0) {
                    workWide();
                } else {
                    any(random.nextInt(30));
                }
            }
        }

        int upTo(int most) {
            return random.nextInt(most + 1);
        }

        /** Mostly least .. most, at times its edges or what lies outside. */
        int near(int least, int most) {
            int way = random.nextInt(40);
            if (way == 0) {
                return least - 1;
            }
            if (way == 1) {
                return most + 1;
            }
            if (way == 2) {
                return random.nextInt(3) == 0 ? random.nextInt() : random.nextBoolean() ? Integer.MIN_VALUE : Integer.MAX_VALUE;
            }
            if (way < 6) {
                return least;
            }
            if (way < 9) {
                return most;
            }
            return least + upTo(most - least);
        }

        int place() {
            return random.nextInt(8) > 0 ? near(0, 5) : near(0, 15);
        }

        int some() {
            int made = model.sources.size();
            return made == 0 ? near(0, 0) : near(0, made - 1);
        }

        int topOf(int s) {
            return model.hasSource(s) ? model.sources.get(s).top() : 5;
        }

        int aroundTop(int s) {
            return random.nextInt(3) == 0 ? near(0, 120) : near(0, Math.min(120, topOf(s) + 2));
        }

        void build() {
            int way = random.nextInt(7);
            if (way < 4) {
                any(way);
            } else {
                any(way + (way == 4 ? 0 : random.nextInt(2)));
            }
        }

        /** TOTALS of 256 bits or little less, and MEANS that do not shorten: so MOMENT 4 and its BOUND get too WIDE. */
        void buildWide() {
            int made = model.sources.size();
            if (call == 0) {
                toss(40, 1 + upTo(56), 58 + upTo(2));
            } else if (call == 1) {
                toss(3, 1 + upTo(55), 57 + upTo(3));
            } else if (call == 2) {
                join(0, 1);
            } else if (call == 3) {
                toss(40, 1 + upTo(2), 4);
            } else if (call < 6) {
                join(made - 1, made - 2 + upTo(1));
            } else if (call == 6 || random.nextBoolean()) {
                int x = call == 6 ? 2 : upTo(made - 1);
                int lo = upTo(topOf(x));
                hold(x, lo, lo + upTo(topOf(x) - lo));
            } else {
                toss(28 + upTo(12), 1 + upTo(30), 35 + upTo(20));
            }
        }

        /** As wide, and with VALUES far from the MEAN. */
        void buildFlat() {
            int made = model.sources.size();
            if (call < 8) {
                lay(call == 0 || call == 7 ? 998 + upTo(2) : 0);
            } else if (call == 8) {
                sum(12);
            } else if (call == 9) {
                toss(20 + upTo(2), 1 + upTo(57), 58 + upTo(2));
            } else if (call == 10) {
                join(0, 1);
            } else {
                int x = made - 1;
                hold(x, upTo(topOf(x) / 2), topOf(x) - upTo(topOf(x) / 2));
            }
        }

        /** To the edge of what a PLACE can hold. */
        void workWide() {
            int s = model.sources.size() - 1;
            switch (random.nextInt(4)) {
                case 0: spread(upTo(5), Math.max(0, s - upTo(1)), 4); break;
                case 1: limit(upTo(5), Math.max(0, s - upTo(1)), upTo(120), 2); break;
                default: reckon(random.nextInt(2), upTo(5), upTo(5), upTo(5)); break;
            }
        }

        void any(int way) {
            switch (way) {
                case 0: weight(); break;
                case 1: coins(); break;
                case 2: drawn(); break;
                case 3: sums(); break;
                case 4: case 5: both(); break;
                case 6: held(); break;
                case 7: source(); break;
                case 8: counted(); break;
                case 9: set(); break;
                case 10: mean(); break;
                case 11: case 12: moment(); break;
                case 13: case 14: tail(); break;
                case 15: case 16: case 17: bound(); break;
                case 18: case 19: case 20: work(); break;
                case 21: order(); break;
                case 22: limb(); break;
                case 23: digits(); break;
                case 24: freeOrWipe(); break;
                case 25: coin(); break;
                case 26: needed(); break;
                case 27: line(); break;
                case 28: crossed(); break;
                default: count(); break;
            }
        }

        void due(String what, long got, long want) {
            asked++;
            if (got != want) {
                wrong++;
                System.out.println("run " + number + " call " + call + ": " + what + " answered " + got + ", due is " + want);
            }
        }

        void weight() {
            int w = random.nextInt(3) == 0 ? near(0, 1000) : near(0, 3);
            lay(w);
        }

        void lay(int w) {
            due("weight(" + w + ")", real.weight(w), model.weight(w));
        }

        void coins() {
            int n = random.nextBoolean() ? near(0, 40) : near(0, 6);
            int b = random.nextBoolean() ? near(1, 60) : near(1, 4);
            int a = near(0, Math.min(Math.max(b, 1), 60));
            toss(n, a, b);
        }

        void toss(int n, int a, int b) {
            due("coins(" + n + ", " + a + ", " + b + ")", real.coins(n, a, b), model.coins(n, a, b));
        }

        void drawn() {
            int all = near(1, 60);
            int most = Math.max(1, Math.min(all, 60));
            int good = near(0, most);
            int n = near(0, most);
            due("drawn(" + all + ", " + good + ", " + n + ")", real.drawn(all, good, n), model.drawn(all, good, n));
        }

        void sums() {
            int n = random.nextBoolean() ? near(0, 12) : near(0, 4);
            sum(n);
        }

        void sum(int n) {
            due("sums(" + n + ")", real.sums(n), model.sums(n));
        }

        void both() {
            int x = some();
            int y = some();
            join(x, y);
        }

        void join(int x, int y) {
            due("both(" + x + ", " + y + ")", real.both(x, y), model.both(x, y));
        }

        void held() {
            int x = some();
            int lo = near(0, topOf(x));
            int hi = random.nextInt(4) == 0 ? near(0, topOf(x)) : Math.max(lo, near(0, topOf(x)));
            hold(x, lo, hi);
        }

        void hold(int x, int lo, int hi) {
            due("held(" + x + ", " + lo + ", " + hi + ")", real.held(x, lo, hi), model.held(x, lo, hi));
        }

        void source() {
            int s = some();
            int what = near(0, 3);
            due("source(" + s + ", " + what + ")", real.source(s, what), model.source(s, what));
        }

        void counted() {
            int s = some();
            int k = aroundTop(s);
            due("counted(" + s + ", " + k + ")", real.counted(s, k), model.counted(s, k));
        }

        void set() {
            int p = place();
            int above = random.nextBoolean() ? near(0, Integer.MAX_VALUE - 1) : near(0, 12);
            int below = random.nextBoolean() ? near(1, Integer.MAX_VALUE - 1) : near(1, 12);
            due("set(" + p + ", " + above + ", " + below + ")", real.set(p, above, below), model.set(p, above, below));
            look(p);
        }

        void mean() {
            int p = place();
            int s = some();
            due("mean(" + p + ", " + s + ")", real.mean(p, s), model.mean(p, s));
            look(p);
        }

        void moment() {
            int p = place();
            int s = some();
            int n = random.nextInt(8) == 0 ? near(0, 5) : 2 + 2 * upTo(1);
            spread(p, s, n);
        }

        void spread(int p, int s, int n) {
            due("moment(" + p + ", " + s + ", " + n + ")", real.moment(p, s, n), model.moment(p, s, n));
            look(p);
        }

        void tail() {
            int p = place();
            int s = some();
            int k = aroundTop(s);
            int side = near(0, 2);
            due("tail(" + p + ", " + s + ", " + k + ", " + side + ")", real.tail(p, s, k, side), model.tail(p, s, k, side));
            look(p);
        }

        void bound() {
            int p = place();
            int s = some();
            int k = aroundTop(s);
            int kind = near(0, 4);
            limit(p, s, k, kind);
        }

        void limit(int p, int s, int k, int kind) {
            due("bound(" + p + ", " + s + ", " + k + ", " + kind + ")", real.bound(p, s, k, kind), model.bound(p, s, k, kind));
            due("base()", real.base(), model.base);
            look(p);
        }

        void work() {
            int act = near(0, 3);
            int p = place();
            int q = place();
            int r = place();
            reckon(act, p, q, r);
        }

        void reckon(int act, int p, int q, int r) {
            due("work(" + act + ", " + p + ", " + q + ", " + r + ")", real.work(act, p, q, r), model.work(act, p, q, r));
            look(p);
        }

        void order() {
            int p = place();
            int q = place();
            due("order(" + p + ", " + q + ")", real.order(p, q), model.order(p, q));
        }

        void limb() {
            int p = place();
            int part = near(0, 1);
            int i = near(0, 31);
            due("limbs(" + p + ", " + part + ")", real.limbs(p, part), model.limbs(p, part));
            due("limb(" + p + ", " + part + ", " + i + ")", real.limb(p, part, i), model.limb(p, part, i));
        }

        void digits() {
            int p = place();
            int n = near(0, 18);
            due("digits(" + p + ", " + n + ")", real.digits(p, n), model.digits(p, n));
        }

        void freeOrWipe() {
            if (random.nextInt(3) == 0) {
                due("wipe()", real.wipe(), model.wipe());
            } else {
                int p = near(0, 15);
                due("free(" + p + ")", real.free(p), model.free(p));
            }
        }

        void coin() {
            int b = near(1, 60);
            int a = near(0, Math.max(1, Math.min(60, b)));
            due("coin(" + a + ", " + b + ")", real.coin(a, b), model.coin(a, b));
        }

        void needed() {
            int how = near(0, 1);
            int w = random.nextBoolean() ? near(1, 100) : near(10, 50);
            int v = random.nextBoolean() ? near(1, 1000000) : near(1, 20);
            int u = random.nextBoolean() ? near(0, Math.max(1, Math.min(1000000, v))) : near(0, 1000000);
            int which = near(0, 1);
            due("needed(" + how + ", " + w + ", " + u + ", " + v + ", " + which + ")",
                real.needed(how, w, u, v, which), model.needed(how, w, u, v, which));
        }

        void line() {
            int c = random.nextBoolean() ? near(0, 60) : near(0, 5);
            int d = near(0, 60);
            int e = near(1, 60);
            due("line(" + c + ", " + d + ", " + e + ")", real.line(c, d, e), model.line(c, d, e));
        }

        void crossed() {
            int p = place();
            int how = near(0, 2);
            int n = near(1, 40);
            due("crossed(" + p + ", " + how + ", " + n + ")", real.crossed(p, how, n), model.crossed(p, how, n));
            look(p);
        }

        void count() {
            int what = near(0, 2);
            due("count(" + what + ")", real.count(what), model.count(what));
        }

        /** All LIMBS of a PLACE, so that no wrong part of a fraction can hide. */
        void look(int p) {
            for (int part = 0; part < 2; part++) {
                int many = model.limbs(p, part);
                due("limbs(" + p + ", " + part + ")", real.limbs(p, part), many);
                for (int i = 0; i <= Math.max(many, 0); i++) {
                    due("limb(" + p + ", " + part + ", " + i + ")", real.limb(p, part, i), model.limb(p, part, i));
                }
            }
        }
    }

    /** A fraction in lowest terms. */
    private record Fr(BigInteger above, BigInteger below) {
        static final Fr ZERO = of(0, 1);
        static final Fr ONE = of(1, 1);

        static Fr of(BigInteger above, BigInteger below) {
            BigInteger g = above.gcd(below);
            return new Fr(above.divide(g), below.divide(g));
        }

        static Fr of(long above, long below) {
            return of(BigInteger.valueOf(above), BigInteger.valueOf(below));
        }

        Fr plus(Fr x) {
            return of(above.multiply(x.below).add(x.above.multiply(below)), below.multiply(x.below));
        }

        Fr minus(Fr x) {
            return of(above.multiply(x.below).subtract(x.above.multiply(below)), below.multiply(x.below));
        }

        Fr times(Fr x) {
            return of(above.multiply(x.above), below.multiply(x.below));
        }

        Fr by(Fr x) {
            return of(above.multiply(x.below), below.multiply(x.above));
        }

        Fr abs() {
            return new Fr(above.abs(), below);
        }

        Fr pow(int n) {
            return new Fr(above.pow(n), below.pow(n));
        }

        int compare(Fr x) {
            return above.multiply(x.below).compareTo(x.above.multiply(below));
        }

        Fr least(Fr x) {
            return compare(x) <= 0 ? this : x;
        }

        boolean isWide() {
            return above.bitLength() > 1024 || below.bitLength() > 1024;
        }
    }

    /** A SOURCE; cases are the numbers of the sides of one round, where rows can be gone through. */
    private record Src(int kind, BigInteger[] counts, int rounds, int[] cases) {
        int top() {
            return counts.length - 1;
        }

        BigInteger total() {
            BigInteger sum = BigInteger.ZERO;
            for (BigInteger c : counts) {
                sum = sum.add(c);
            }
            return sum;
        }

        /** The sum of the power n of |v - from|, weighed by the COUNTS, by the TOTAL. */
        Fr average(int n, Fr from) {
            Fr sum = Fr.ZERO;
            for (int v = 0; v <= top(); v++) {
                if (counts[v].signum() != 0) {
                    sum = sum.plus(Fr.of(v, 1).minus(from).abs().pow(n).times(Fr.of(counts[v], BigInteger.ONE)));
                }
            }
            return sum.by(Fr.of(total(), BigInteger.ONE));
        }

        Fr middle() {
            return average(1, Fr.ZERO);
        }
    }

    private static final class Model {
        final List<Integer> weights = new ArrayList<>();
        final List<Src> sources = new ArrayList<>();
        final Fr[] places = new Fr[16];
        int base = 0;
        int coinA = 1;
        int coinB = 2;
        int lineC = 0;
        int lineD = 1;
        int lineE = 1;

        boolean hasSource(int s) {
            return s >= 0 && s < sources.size();
        }

        boolean noPlace(int p) {
            return p < 0 || p > 15;
        }

        static boolean not(int x, int least, int most) {
            return x < least || x > most;
        }

        static BigInteger choose(int n, int k) {
            if (k < 0 || k > n) {
                return BigInteger.ZERO;
            }
            BigInteger c = BigInteger.ONE;
            for (int i = 0; i < k; i++) {
                c = c.multiply(BigInteger.valueOf(n - i)).divide(BigInteger.valueOf(i + 1));
            }
            return c;
        }

        int keep(Src s) {
            sources.add(s);
            return sources.size() - 1;
        }

        int weight(int w) {
            if (not(w, 0, 1000)) {
                return -1;
            }
            if (weights.size() == 8) {
                return -3;
            }
            weights.add(w);
            return weights.size();
        }

        int wipe() {
            int had = weights.size();
            weights.clear();
            return had;
        }

        static BigInteger[] coinCounts(int n, int a, int b) {
            BigInteger[] counts = new BigInteger[n + 1];
            for (int k = 0; k <= n; k++) {
                counts[k] = choose(n, k).multiply(BigInteger.valueOf(a).pow(k)).multiply(BigInteger.valueOf(b - a).pow(n - k));
            }
            return counts;
        }

        int coins(int n, int a, int b) {
            if (not(n, 0, 40) || not(b, 1, 60) || not(a, 0, b)) {
                return -1;
            }
            if (sources.size() == 16) {
                return -3;
            }
            int[] cases = new int[b];
            for (int i = 0; i < a; i++) {
                cases[i] = 1;
            }
            return keep(new Src(0, coinCounts(n, a, b), n, cases));
        }

        int drawn(int all, int good, int n) {
            if (not(all, 1, 60) || not(good, 0, all) || not(n, 0, all)) {
                return -1;
            }
            if (sources.size() == 16) {
                return -3;
            }
            BigInteger[] counts = new BigInteger[n + 1];
            for (int k = 0; k <= n; k++) {
                counts[k] = choose(good, k).multiply(choose(all - good, n - k));
            }
            return keep(new Src(1, counts, 0, null));
        }

        static BigInteger[] pairs(BigInteger[] x, BigInteger[] y) {
            BigInteger[] counts = new BigInteger[x.length + y.length - 1];
            for (int v = 0; v < counts.length; v++) {
                counts[v] = BigInteger.ZERO;
                for (int i = 0; i <= v; i++) {
                    if (i < x.length && v - i < y.length) {
                        counts[v] = counts[v].add(x[i].multiply(y[v - i]));
                    }
                }
            }
            return counts;
        }

        int sums(int n) {
            int all = weights.stream().mapToInt(Integer::intValue).sum();
            if (not(n, 0, 12) || all == 0) {
                return -1;
            }
            if (sources.size() == 16) {
                return -3;
            }
            BigInteger[] round = new BigInteger[weights.size()];
            int[] cases = new int[all];
            int at = 0;
            for (int i = 0; i < round.length; i++) {
                round[i] = BigInteger.valueOf(weights.get(i));
                for (int j = 0; j < weights.get(i); j++) {
                    cases[at++] = i;
                }
            }
            BigInteger[] counts = {BigInteger.ONE};
            for (int i = 0; i < n; i++) {
                counts = pairs(counts, round);
            }
            return keep(new Src(2, counts, n, cases));
        }

        int both(int x, int y) {
            if (!hasSource(x) || !hasSource(y) || sources.get(x).top() + sources.get(y).top() > 120) {
                return -1;
            }
            if (sources.size() == 16) {
                return -3;
            }
            Src made = new Src(3, pairs(sources.get(x).counts, sources.get(y).counts), 0, null);
            return made.total().bitLength() > 256 ? -4 : keep(made);
        }

        int held(int x, int lo, int hi) {
            if (!hasSource(x) || not(lo, 0, sources.get(x).top()) || not(hi, 0, sources.get(x).top()) || lo > hi) {
                return -1;
            }
            if (sources.size() == 16) {
                return -3;
            }
            BigInteger[] old = sources.get(x).counts;
            BigInteger[] counts = new BigInteger[old.length];
            java.util.Arrays.fill(counts, BigInteger.ZERO);
            for (int v = 0; v < old.length; v++) {
                int to = v < lo ? lo : v > hi ? hi : v;
                counts[to] = counts[to].add(old[v]);
            }
            return keep(new Src(4, counts, 0, null));
        }

        int source(int s, int what) {
            if (!hasSource(s) || not(what, 0, 3)) {
                return -1;
            }
            Src one = sources.get(s);
            if (what == 0) {
                return one.kind;
            }
            if (what == 1) {
                return one.top();
            }
            if (what == 2) {
                return one.total().bitLength();
            }
            int zeros = 0;
            for (BigInteger c : one.counts) {
                zeros += c.signum() == 0 ? 1 : 0;
            }
            return zeros;
        }

        int counted(int s, int k) {
            if (!hasSource(s) || not(k, 0, 120)) {
                return -1;
            }
            Src one = sources.get(s);
            if (one.cases == null || BigInteger.valueOf(one.cases.length).pow(one.rounds).compareTo(BigInteger.valueOf(20000)) > 0) {
                return -5;
            }
            return go(one, 0, 0, k);
        }

        /** Really one row after the other. */
        private int go(Src one, int round, int sum, int k) {
            if (round == one.rounds) {
                return sum >= k ? 1 : 0;
            }
            int found = 0;
            for (int number : one.cases) {
                found += go(one, round + 1, sum + number, k);
            }
            return found;
        }

        int settle(int p, Fr x) {
            if (x.isWide()) {
                return -4;
            }
            places[p] = x;
            return 1;
        }

        int set(int p, int above, int below) {
            return noPlace(p) || above < 0 || below <= 0 ? -1 : settle(p, Fr.of(above, below));
        }

        int mean(int p, int s) {
            return noPlace(p) || !hasSource(s) ? -1 : settle(p, sources.get(s).middle());
        }

        int moment(int p, int s, int n) {
            if (noPlace(p) || !hasSource(s) || (n != 2 && n != 4)) {
                return -1;
            }
            return settle(p, sources.get(s).average(n, sources.get(s).middle()));
        }

        int tail(int p, int s, int k, int side) {
            if (noPlace(p) || !hasSource(s) || not(k, 0, 120) || not(side, 0, 2)) {
                return -1;
            }
            Src one = sources.get(s);
            Fr middle = one.middle();
            Fr far = Fr.of(k, 1).minus(middle).abs();
            BigInteger sum = BigInteger.ZERO;
            for (int v = 0; v <= one.top(); v++) {
                boolean in = side == 0 ? v >= k : side == 1 ? v <= k : Fr.of(v, 1).minus(middle).abs().compare(far) >= 0;
                if (in) {
                    sum = sum.add(one.counts[v]);
                }
            }
            return settle(p, Fr.of(sum, one.total()));
        }

        int bound(int p, int s, int k, int kind) {
            if (noPlace(p) || !hasSource(s) || not(k, 0, 120) || not(kind, 0, 4)) {
                return -1;
            }
            Src one = sources.get(s);
            Fr middle = one.middle();
            Fr over = Fr.of(k, 1).minus(middle);
            Fr found = Fr.ONE;
            int foundBase = 0;
            if (over.above.signum() > 0) {
                if (kind == 0) {
                    found = middle.by(Fr.of(k, 1));
                } else if (kind == 1) {
                    found = one.average(2, middle).by(over.pow(2));
                } else if (kind == 2) {
                    found = one.average(4, middle).by(over.pow(4));
                } else if (kind == 3) {
                    Fr two = one.average(2, middle);
                    found = two.by(two.plus(over.pow(2)));
                } else {
                    found = null;
                    for (int j = 5; j <= 12; j++) {
                        Fr now = powers(one, k, Fr.of(j, 4));
                        if (found == null || now.compare(found) < 0) {
                            found = now;
                            foundBase = j;
                        }
                    }
                }
            }
            int done = settle(p, found.least(Fr.ONE));
            if (done == 1 && kind == 4) {
                base = foundBase;
            }
            return done;
        }

        static Fr powers(Src one, int k, Fr t) {
            Fr sum = Fr.ZERO;
            Fr power = Fr.ONE;
            for (BigInteger c : one.counts) {
                sum = sum.plus(power.times(Fr.of(c, BigInteger.ONE)));
                power = power.times(t);
            }
            return sum.by(Fr.of(one.total(), BigInteger.ONE).times(t.pow(k)));
        }

        int work(int act, int p, int q, int r) {
            if (not(act, 0, 3) || noPlace(p) || noPlace(q) || (act != 3 && noPlace(r))) {
                return -1;
            }
            if (places[q] == null || (act != 3 && places[r] == null)) {
                return -2;
            }
            if (act == 0) {
                return settle(p, places[q].plus(places[r]));
            }
            if (act == 1) {
                return settle(p, places[q].times(places[r]));
            }
            if (act == 2) {
                return settle(p, places[q].least(places[r]));
            }
            Fr left = Fr.ONE.minus(places[q]);
            return settle(p, left.above.signum() < 0 ? Fr.ZERO : left);
        }

        int order(int p, int q) {
            if (noPlace(p) || noPlace(q)) {
                return -1;
            }
            return places[p] == null || places[q] == null ? -2 : 1 + places[p].compare(places[q]);
        }

        BigInteger half(int p, int part) {
            return part == 0 ? places[p].above : places[p].below;
        }

        int limbs(int p, int part) {
            if (noPlace(p) || not(part, 0, 1)) {
                return -1;
            }
            return places[p] == null ? -2 : (half(p, part).bitLength() + 31) / 32;
        }

        long limb(int p, int part, int i) {
            int many = limbs(p, part);
            if (many < 0) {
                return many;
            }
            return i < 0 || i >= many ? -5 : half(p, part).shiftRight(32 * i).longValue() & 0xFFFFFFFFL;
        }

        long digits(int p, int n) {
            if (noPlace(p) || not(n, 0, 18)) {
                return -1;
            }
            if (places[p] == null) {
                return -2;
            }
            BigInteger whole = places[p].above.multiply(BigInteger.TEN.pow(n)).divide(places[p].below);
            return whole.bitLength() > 63 ? -4 : whole.longValue();
        }

        int free(int p) {
            if (noPlace(p)) {
                return -1;
            }
            int did = places[p] == null ? 0 : 1;
            places[p] = null;
            return did;
        }

        int coin(int a, int b) {
            if (not(b, 1, 60) || not(a, 0, b)) {
                return -1;
            }
            coinA = a;
            coinB = b;
            return 1;
        }

        int needed(int how, int w, int u, int v, int which) {
            if (not(how, 0, 1) || not(w, 1, 100) || not(u, 0, 1000000) || not(v, 1, 1000000) || not(which, 0, 1)) {
                return -1;
            }
            boolean[] good = new boolean[42];
            for (int n = 1; n <= 40; n++) {
                Fr share = how == 0 ? far(n, w) : Fr.of(coinA * (coinB - coinA), n * coinB * coinB).by(Fr.of(w, 100).pow(2)).least(Fr.ONE);
                good[n] = share.compare(Fr.of(u, v)) <= 0;
            }
            for (int n = 1; n <= 40; n++) {
                boolean holds = good[n];
                for (int m = n; m <= 40 && which == 1; m++) {
                    holds = holds && good[m];
                }
                if (holds) {
                    return n;
                }
            }
            return -5;
        }

        Fr far(int n, int w) {
            BigInteger[] counts = coinCounts(n, coinA, coinB);
            BigInteger sum = BigInteger.ZERO;
            for (int k = 0; k <= n; k++) {
                if (Fr.of(k, n).minus(Fr.of(coinA, coinB)).abs().compare(Fr.of(w, 100)) >= 0) {
                    sum = sum.add(counts[k]);
                }
            }
            return Fr.of(sum, BigInteger.valueOf(coinB).pow(n));
        }

        int line(int c, int d, int e) {
            if (not(c, 0, 60) || not(d, 0, 60) || not(e, 1, 60)) {
                return -1;
            }
            lineC = c;
            lineD = d;
            lineE = e;
            return 1;
        }

        boolean isOver(int h, int i) {
            return Fr.of(h, 1).compare(Fr.of(lineC, 1).plus(Fr.of(lineD * i, lineE))) >= 0;
        }

        int crossed(int p, int how, int n) {
            if (noPlace(p) || not(how, 0, 2) || not(n, 1, 40)) {
                return -1;
            }
            Fr sum = Fr.ZERO;
            Fr latest = Fr.ZERO;
            Fr[] under = {Fr.ONE};
            for (int i = 1; i <= n; i++) {
                if (how == 2) {
                    latest = over(i);
                } else {
                    under = further(under);
                    latest = Fr.ZERO;
                    for (int h = 0; h <= i; h++) {
                        if (isOver(h, i)) {
                            latest = latest.plus(under[h]);
                            under[h] = Fr.ZERO;
                        }
                    }
                }
                sum = sum.plus(latest);
            }
            return settle(p, how == 1 ? latest : sum.least(Fr.ONE));
        }

        Fr over(int i) {
            BigInteger[] counts = coinCounts(i, coinA, coinB);
            BigInteger sum = BigInteger.ZERO;
            for (int h = 0; h <= i; h++) {
                if (isOver(h, i)) {
                    sum = sum.add(counts[h]);
                }
            }
            return Fr.of(sum, BigInteger.valueOf(coinB).pow(i));
        }

        Fr[] further(Fr[] under) {
            Fr[] next = new Fr[under.length + 1];
            for (int h = 0; h < next.length; h++) {
                Fr came = h > 0 ? under[h - 1].times(Fr.of(coinA, coinB)) : Fr.ZERO;
                Fr not = h < under.length ? under[h].times(Fr.of(coinB - coinA, coinB)) : Fr.ZERO;
                next[h] = came.plus(not);
            }
            return next;
        }

        int count(int what) {
            if (not(what, 0, 2)) {
                return -1;
            }
            int filled = 0;
            for (Fr x : places) {
                filled += x == null ? 0 : 1;
            }
            return what == 0 ? sources.size() : what == 1 ? weights.size() : filled;
        }
    }
}
