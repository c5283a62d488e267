import java.math.BigInteger;
import java.util.ArrayList;
import java.util.List;
import java.util.Random;

/**
 * Random runs of calls, the class against a model that does what the document says, word for
 * word and slowly: every part by its figures, every box by its points, every fraction exactly.
 */
public final class OracleTest {
    private static final int RUNS = 1500;
    private static final int CALLS = 512;
    private static final int SHOWN = 20;

    private static int wrong = 0;

    public static void main(String[] args) {
        int[] asked = new int[28];
        for (int run = 0; run < RUNS; run++) {
            randomRun(run, asked);
        }
        for (int method = 0; method < asked.length; method++) {
            if (asked[method] < RUNS) {
                wrong++;
                System.out.println("method " + method + " was asked only " + asked[method] + " times");
            }
        }
        everyEdge();
        largestMeasured();
        System.out.println(wrong == 0 ? "class and model agree" : wrong + " answers differ");
        if (wrong != 0) {
            System.exit(1);
        }
    }

    private static void randomRun(int run, int[] asked) {
        Random random = new Random(7_000_003L * run + 11);
        EvenScatter x = new EvenScatter();
        Model m = new Model();
        StringBuilder told = new StringBuilder();
        // Small scatters make the searches of the model quick and the ties many.
        int most = run % 10 == 0 ? 8 : run % 10 < 4 ? 4 : 3;
        for (int call = 0; call < CALLS; call++) {
            int method = call < 6 ? new int[] {0, 2, 3, 5, 7, 9}[random.nextInt(6)] : random.nextInt(28);
            if (method == 9 && random.nextInt(3) != 0) {
                method = 3;
            }
            if (heavy(method) && most == 8 && random.nextInt(8) != 0) {
                method = 1;
            }
            asked[method]++;
            String done = Calls.both(x, m, method, random, most);
            told.append(done).append('\n');
            if (done.contains("DIFFERS")) {
                wrong++;
                if (wrong <= SHOWN) {
                    System.out.println("run " + run + ", call " + call + ": " + done);
                }
                return;
            }
        }
        checkAll(run, x, m);
    }

    private static boolean heavy(int method) {
        return method == 20 || method == 21 || method == 23 || method == 24 || method == 26;
    }

    private static void checkAll(int run, EvenScatter x, Model m) {
        for (int what = -2; what < 20; what++) {
            due("run " + run + " status(" + what + ")", x.status(what), m.status(what));
        }
        for (int s = 0; s < m.all.size(); s++) {
            for (int what = 0; what < 5; what++) {
                due("run " + run + " scatter(" + s + ", " + what + ")", x.scatter(s, what), m.scatter(s, what));
            }
            Model.Points p = m.all.get(s);
            for (int n = 0; n < p.count; n++) {
                for (int j = 0; j < p.directions; j++) {
                    due("run " + run + " part(" + s + ", " + n + ", " + j + ")", x.part(s, n, j), p.part(n, j));
                }
            }
        }
    }

    /** The greatest scatters, and arguments at the ends of int and long. */
    private static void everyEdge() {
        int[] ends = {Integer.MIN_VALUE, -1, 0, 1, 6, 12, 127, 255, 256, Integer.MAX_VALUE};
        for (int kind = 0; kind < 5; kind++) {
            EvenScatter x = new EvenScatter();
            Model m = new Model();
            Calls.greatest(x, m, kind);
            for (int a : ends) {
                for (int b : ends) {
                    Calls.edge(x, m, a, b);
                }
            }
            for (int what = -2; what < 20; what++) {
                due("kind " + kind + " status(" + what + ")", x.status(what), m.status(what));
            }
        }
    }

    /** What worst(), square(), waves() and grade() may still be asked of, and just not. */
    private static void largestMeasured() {
        EvenScatter x = new EvenScatter();
        Model m = new Model();
        int[][] grids = {{64, 2}, {65, 1}, {16, 3}, {17, 3}, {63, 3}, {2, 4}};
        for (int[] grid : grids) {
            due("grid", x.grid(grid[0], grid[1]), m.grid(grid[0], grid[1]));
        }
        for (int s = 0; s < grids.length; s++) {
            for (int j = 0; j < grids[s][1]; j++) {
                int g = (5 * j * j + 12 * j + 1) % grids[s][0];
                due("step", x.step(s, j, g), m.step(s, j, g));
            }
        }
        int[][] lots = {{2, 6}, {3, 4}, {3, 6}, {6, 2}, {1, 8}, {2, 7}};
        for (int[] lot : lots) {
            due("lots", x.lots(lot[0], lot[1], 99L), m.lots(lot[0], lot[1], 99L));
        }
        for (int s = 0; s < m.all.size(); s++) {
            for (int what = 0; what < 7; what++) {
                due("worst(" + s + ", " + what + ")", x.worst(s, what), m.worst(s, what));
                due("square(" + s + ", " + what + ")", x.square(s, what), m.square(s, what));
                due("waves(" + s + ", 2, " + what + ")", x.waves(s, 2, what), m.waves(s, 2, what));
            }
        }
        manyGrades();
    }

    private static void manyGrades() {
        Random r = new Random(5);
        for (int run = 0; run < 40; run++) {
            EvenScatter x = new EvenScatter();
            Model m = new Model();
            int power = run % 9;
            due("ladder", x.ladder(power), m.ladder(power));
            for (int j = 1; j < 2 + run % 5; j++) {
                int p = 3 + 2 * r.nextInt(63);
                long firsts = Calls.firsts(r);
                due("direction", x.direction(0, p, firsts), m.direction(0, p, firsts));
            }
            due("run " + run + " grade", x.grade(0), m.grade(0));
            for (int j = 0; j < 6; j++) {
                due("run " + run + " pair", x.pair(0, j, run % 6), m.pair(0, j, run % 6));
            }
        }
    }

    private static void due(String call, long got, long want) {
        if (got != want) {
            wrong++;
            if (wrong <= SHOWN) {
                System.out.println(call + " answered " + got + ", due is " + want);
            }
        }
    }

    /** One call on both, told with its answer. */
    private static final class Calls {
        static String both(EvenScatter x, Model m, int method, Random r, int most) {
            int s = m.all.isEmpty() ? r.nextInt(2) : r.nextInt(12) == 0 ? r.nextInt(15) - 1 : r.nextInt(m.all.size());
            Model.Points p = s >= 0 && s < m.all.size() ? m.all.get(s) : null;
            int d = p == null ? 2 : p.directions;
            int c = p == null ? 4 : p.count;
            int w = p == null ? 2 : Math.max(0, p.power);
            int j = near(r, d);
            int a;
            int b;
            long g;
            boolean closed;
            switch (method) {
                case 0:
                    a = r.nextInt(9) == 0 ? r.nextInt(9) - 1 : 1 + r.nextInt(3);
                    b = r.nextInt(9) == 0 ? r.nextInt(11) - 1 : r.nextInt(most + 1);
                    return say("table", x.table(a, b), m.table(a, b), a, b);
                case 1:
                    a = near(r, w);
                    b = near(r, c);
                    return say("row", x.row(s, j, a, b), m.row(s, j, a, b), s, j, a, b);
                case 2:
                    a = r.nextInt(9) == 0 ? r.nextInt(11) - 1 : r.nextInt(most + 1);
                    return say("ladder", x.ladder(a), m.ladder(a), a);
                case 3:
                    s = r.nextInt(4) == 0 ? s : ladderOf(m, s);
                    a = r.nextInt(8) == 0 ? r.nextInt(140) - 4 : 3 + 2 * r.nextInt(63);
                    g = firsts(r);
                    return say("direction", x.direction(s, a, g), m.direction(s, a, g), s, a, g);
                case 4:
                    a = near(r, c);
                    b = r.nextInt(d);
                    return say("part", x.part(s, a, b), m.part(s, a, b), s, a, b);
                case 5:
                    return say("turned", x.turned(s), m.turned(s), s);
                case 6:
                    a = near(r, c);
                    return say("mask", x.mask(s, j, a), m.mask(s, j, a), s, j, a);
                case 7:
                    a = r.nextInt(9) == 0 ? r.nextInt(260) - 1 : 1 + r.nextInt(most == 8 ? 64 : 12);
                    b = r.nextInt(9) == 0 ? r.nextInt(9) - 1 : 1 + r.nextInt(3);
                    return say("grid", x.grid(a, b), m.grid(a, b), a, b);
                case 8:
                    a = near(r, c);
                    return say("step", x.step(s, j, a), m.step(s, j, a), s, j, a);
                case 9:
                    a = r.nextInt(9) == 0 ? r.nextInt(9) - 1 : 1 + r.nextInt(3);
                    b = r.nextInt(9) == 0 ? r.nextInt(11) - 1 : r.nextInt(most + 1);
                    g = r.nextLong();
                    return say("lots", x.lots(a, b, g), m.lots(a, b, g), a, b, g);
                case 10:
                    a = near(r, 5);
                    return say("scatter", x.scatter(s, a), m.scatter(s, a), s, a);
                default:
                    break;
            }
            switch (method) {
                case 11:
                    return say("next", x.next(s), m.next(s), s);
                case 12:
                    a = r.nextInt(6) == 0 ? 999999 + r.nextInt(3) : r.nextInt(600) - 5;
                    return say("skip", x.skip(s, a), m.skip(s, a), s, a);
                case 13:
                    j = near(r, 6);
                    a = near(r, c) / 2;
                    b = near(r, c + 1);
                    return say("side", x.side(j, a, b), m.side(j, a, b), j, a, b);
                case 14:
                    j = near(r, 6);
                    a = r.nextInt(3) == 0 ? near(r, c) : near(r, w + 1);
                    return say("mark", x.mark(j, a), m.mark(j, a), j, a);
                case 15:
                    return say("count", x.count(s), m.count(s), s);
                case 16:
                    return say("back", x.back(s), m.back(s), s);
                case 17:
                    return say("even", x.even(s), m.even(s), s);
                case 18:
                    return say("why", x.why(s), m.why(s), s);
                case 19:
                    a = near(r, 20);
                    return say("status", x.status(a), m.status(a), a);
                case 20:
                    return say("grade", x.grade(s), m.grade(s), s);
                case 21:
                    a = near(r, d);
                    return say("pair", x.pair(s, j, a), m.pair(s, j, a), s, j, a);
                case 22:
                    closed = r.nextBoolean();
                    a = near(r, 2);
                    return say("gap", x.gap(s, closed, a), m.gap(s, closed, a), s, closed ? 1 : 0, a);
                case 23:
                    a = near(r, 3 + d);
                    return say("worst", x.worst(s, a), m.worst(s, a), s, a);
                case 24:
                    a = near(r, 2);
                    return say("square", x.square(s, a), m.square(s, a), s, a);
                case 25:
                    return say("wave", x.wave(s), m.wave(s), s);
                case 26:
                    a = r.nextInt(14) - 1;
                    b = r.nextInt(5) == 0 ? r.nextInt(200) : r.nextInt(8) - 1;
                    return say("waves", x.waves(s, a, b), m.waves(s, a, b), s, a, b);
                default:
                    a = near(r, 3);
                    return say("sum", x.sum(s, a), m.sum(s, a), s, a);
            }
        }

        /** Mostly 0 .. below - 1, now and then just outside, seldom far outside. */
        private static int near(Random r, int below) {
            int dice = r.nextInt(40);
            if (dice == 0) {
                return r.nextInt();
            }
            if (dice < 3) {
                return below + r.nextInt(2);
            }
            return dice == 3 ? -1 : r.nextInt(Math.max(1, below));
        }

        private static int ladderOf(Model m, int s) {
            for (int i = 0; i < m.all.size(); i++) {
                int at = (i + Math.max(0, s)) % m.all.size();
                if (m.all.get(at).kind == 1) {
                    return at;
                }
            }
            return s;
        }

        private static long firsts(Random r) {
            long all = r.nextInt(3) == 0 ? r.nextLong() << 48 : 0;
            for (int k = 1; k <= 6; k++) {
                long v = 2 * r.nextInt(1 << (k - 1)) + 1;
                if (r.nextInt(60) == 0) {
                    v = r.nextInt(256);
                }
                all |= v << (8 * (k - 1));
            }
            return all;
        }

        static void greatest(EvenScatter x, Model m, int kind) {
            Random r = new Random(kind);
            long g = firsts(r);
            switch (kind) {
                case 0:
                    due("table", x.table(6, 8), m.table(6, 8));
                    for (int i = 0; i < 48; i++) {
                        int bits = r.nextInt(256);
                        due("row", x.row(0, i / 8, i % 8, bits), m.row(0, i / 8, i % 8, bits));
                    }
                    break;
                case 1:
                case 2:
                    due("ladder", x.ladder(8), m.ladder(8));
                    for (int p : new int[] {3, 7, 11, 13, 109}) {
                        due("direction", x.direction(0, p, 0x010101010101L), m.direction(0, p, 0x010101010101L));
                    }
                    if (kind == 2) {
                        due("turned", x.turned(0), m.turned(0));
                        for (int j = 0; j < 6; j++) {
                            due("mask", x.mask(1, j, 37 * j + 5), m.mask(1, j, 37 * j + 5));
                        }
                    }
                    break;
                case 3:
                    due("grid", x.grid(256, 6), m.grid(256, 6));
                    for (int j = 0; j < 6; j++) {
                        due("step", x.step(0, j, 255 - j), m.step(0, j, 255 - j));
                    }
                    break;
                default:
                    due("lots", x.lots(6, 8, g), m.lots(6, 8, g));
                    break;
            }
        }

        static void edge(EvenScatter x, Model m, int a, int b) {
            String with = "(" + a + ", " + b + ")";
            due("side" + with, x.side(a, b, a), m.side(a, b, a));
            due("mark" + with, x.mark(a, b), m.mark(a, b));
            due("row" + with, x.row(0, a, b, a), m.row(0, a, b, a));
            due("mask" + with, x.mask(0, a, b), m.mask(0, a, b));
            due("step" + with, x.step(0, a, b), m.step(0, a, b));
            due("part" + with, x.part(0, a, b), m.part(0, a, b));
            due("scatter" + with, x.scatter(a, b), m.scatter(a, b));
            due("skip" + with, x.skip(a, b), m.skip(a, b));
            due("next" + with, x.next(a), m.next(a));
            due("direction" + with, x.direction(a, b, -1L), m.direction(a, b, -1L));
            due("direction" + with, x.direction(0, a, Long.MIN_VALUE), m.direction(0, a, Long.MIN_VALUE));
            due("count" + with, x.count(0), m.count(0));
            due("count" + with, x.count(a), m.count(a));
            due("back" + with, x.back(0), m.back(0));
            due("even" + with, x.even(0), m.even(0));
            due("even" + with, x.even(b), m.even(b));
            due("why" + with, x.why(0), m.why(0));
            due("why" + with, x.why(b), m.why(b));
            due("gap" + with, x.gap(0, true, b), m.gap(0, true, b));
            due("gap" + with, x.gap(a, false, b), m.gap(a, false, b));
            due("worst" + with, x.worst(a, b), m.worst(a, b));
            due("square" + with, x.square(a, b), m.square(a, b));
            due("wave" + with, x.wave(0), m.wave(0));
            due("wave" + with, x.wave(a), m.wave(a));
            due("waves" + with, x.waves(0, a, b), m.waves(0, a, b));
            due("sum" + with, x.sum(0, b), m.sum(0, b));
            due("sum" + with, x.sum(a, b), m.sum(a, b));
            due("pair" + with, x.pair(0, a, b), m.pair(0, a, b));
            if (a == b) {
                due("grade" + with, x.grade(a), m.grade(a));
            }
        }

        private static String say(String name, long got, long want, long... with) {
            StringBuilder b = new StringBuilder(name);
            for (long v : with) {
                b.append(' ').append(v);
            }
            b.append(" -> ").append(got);
            if (got != want) {
                b.append(" DIFFERS, due is ").append(want);
            }
            return b.toString();
        }
    }

    /** A fraction in lowest terms. */
    private record Ratio(BigInteger top, BigInteger bottom) implements Comparable<Ratio> {
        static Ratio of(BigInteger top, BigInteger bottom) {
            BigInteger g = top.gcd(bottom);
            g = bottom.signum() < 0 ? g.negate() : g;
            return new Ratio(top.divide(g), bottom.divide(g));
        }

        static Ratio of(long top, long bottom) {
            return of(BigInteger.valueOf(top), BigInteger.valueOf(bottom));
        }

        Ratio plus(Ratio o) {
            return of(top.multiply(o.bottom).add(o.top.multiply(bottom)), bottom.multiply(o.bottom));
        }

        Ratio minus(Ratio o) {
            return plus(new Ratio(o.top.negate(), o.bottom));
        }

        Ratio times(Ratio o) {
            return of(top.multiply(o.top), bottom.multiply(o.bottom));
        }

        @Override
        public int compareTo(Ratio o) {
            return top.multiply(o.bottom).compareTo(o.top.multiply(bottom));
        }
    }

    /** The document, word for word. */
    private static final class Model {
        static final class Points {
            int kind;
            int directions;
            int power;
            int count;
            int turn;
            int[][] rows = new int[6][8];
            int[] masks = new int[6];
            int[] steps = new int[6];
            long seed;
            int[][] lots;

            int part(int n, int j) {
                if (kind == 3) {
                    return n * steps[j] % count;
                }
                if (kind == 4) {
                    return lots[n][j];
                }
                int part = 0;
                for (int i = 0; i < power; i++) {
                    int both = 0;
                    for (int k = 0; k < 8; k++) {
                        both += rows[j][i] >> k & n >> k & 1;
                    }
                    part += (both % 2) * (1 << (power - 1 - i));
                }
                return part ^ masks[j];
            }

            void draw() {
                lots = new int[count][directions];
                BigInteger round = BigInteger.ONE.shiftLeft(64);
                BigInteger w = BigInteger.valueOf(seed).mod(round);
                for (int n = 0; n < count; n++) {
                    for (int j = 0; j < directions; j++) {
                        w = w.multiply(new BigInteger("6364136223846793005"))
                            .add(new BigInteger("1442695040888963407")).mod(round);
                        lots[n][j] = w.shiftRight(64 - power).intValueExact();
                    }
                }
            }
        }

        final List<Points> all = new ArrayList<>();
        final int[] low = new int[6];
        final int[] high = new int[6];
        final int[] mark = new int[6];
        final int[] refused = new int[7];
        int told;

        int no(int refusal) {
            refused[-refusal]++;
            return refusal;
        }

        long noLong(int refusal) {
            refused[-refusal]++;
            return -1000 - refusal;
        }

        Points get(int s) {
            return s < 0 || s >= all.size() ? null : all.get(s);
        }

        int add(int kind, int directions, int power, int count) {
            Points p = new Points();
            p.kind = kind;
            p.directions = directions;
            p.power = power;
            p.count = count;
            all.add(p);
            return all.size() - 1;
        }

        int table(int directions, int power) {
            if (directions < 1 || power < 0) {
                return no(-4);
            }
            if (directions > 6 || power > 8 || all.size() == 12) {
                return no(-6);
            }
            return add(0, directions, power, 1 << power);
        }

        int row(int s, int j, int i, int bits) {
            Points p = get(s);
            if (p == null || j < 0 || j >= p.directions) {
                return no(-1);
            }
            if (p.kind != 0) {
                return no(-2);
            }
            if (i < 0 || i >= p.power || bits < 0 || bits >= p.count) {
                return no(-3);
            }
            int was = p.rows[j][i];
            p.rows[j][i] = bits;
            return was;
        }

        int ladder(int power) {
            if (power < 0) {
                return no(-4);
            }
            if (power > 8 || all.size() == 12) {
                return no(-6);
            }
            int s = add(1, 1, power, 1 << power);
            for (int i = 0; i < power; i++) {
                all.get(s).rows[0][i] = 1 << i;
            }
            return s;
        }

        int direction(int s, int p, long firsts) {
            Points x = get(s);
            if (x == null) {
                return no(-1);
            }
            if (x.kind != 1) {
                return no(-2);
            }
            if (p < 3) {
                return no(-4);
            }
            if (p > 127 || x.directions == 6) {
                return no(-6);
            }
            int q = 31 - Integer.numberOfLeadingZeros(p);
            long[] v = new long[20];
            boolean bad = p % 2 == 0;
            for (int k = 1; k <= q; k++) {
                v[k] = firsts >> (8 * k - 8) & 0xff;
                bad |= v[k] % 2 == 0 || v[k] >= Math.pow(2, k);
            }
            if (bad) {
                return no(-3);
            }
            for (int k = q + 1; k < 20; k++) {
                v[k] = v[k - q] ^ (v[k - q] << q);
                for (int i = 1; i <= q - 1; i++) {
                    if ((p & 1 << (q - i)) != 0) {
                        v[k] ^= v[k - i] << i;
                    }
                }
            }
            for (int i = 0; i < x.power; i++) {
                for (int k = 1; k <= x.power; k++) {
                    if (k - 1 - i >= 0 && (v[k] >> (k - 1 - i) & 1) == 1) {
                        x.rows[x.directions][i] |= 1 << (k - 1);
                    }
                }
            }
            return x.directions++;
        }

        int turned(int s) {
            Points p = get(s);
            if (p == null) {
                return no(-1);
            }
            if (p.kind > 2) {
                return no(-2);
            }
            if (all.size() == 12) {
                return no(-6);
            }
            int t = add(2, p.directions, p.power, p.count);
            for (int j = 0; j < 6; j++) {
                all.get(t).rows[j] = p.rows[j].clone();
                all.get(t).masks[j] = p.masks[j];
            }
            return t;
        }

        int mask(int s, int j, int bits) {
            Points p = get(s);
            if (p == null || j < 0 || j >= p.directions) {
                return no(-1);
            }
            if (p.kind != 2) {
                return no(-2);
            }
            if (bits < 0 || bits >= p.count) {
                return no(-3);
            }
            int was = p.masks[j];
            p.masks[j] = bits;
            return was;
        }

        int grid(int count, int directions) {
            if (count < 1 || directions < 1) {
                return no(-4);
            }
            if (count > 256 || directions > 6 || all.size() == 12) {
                return no(-6);
            }
            return add(3, directions, -1, count);
        }

        int step(int s, int j, int g) {
            Points p = get(s);
            if (p == null || j < 0 || j >= p.directions) {
                return no(-1);
            }
            if (p.kind != 3) {
                return no(-2);
            }
            if (g < 0 || g >= p.count) {
                return no(-3);
            }
            int was = p.steps[j];
            p.steps[j] = g;
            return was;
        }

        int lots(int directions, int power, long seed) {
            int s = table(directions, power);
            if (s >= 0) {
                all.get(s).kind = 4;
                all.get(s).seed = seed;
                all.get(s).draw();
            }
            return s;
        }

        int scatter(int s, int what) {
            Points p = get(s);
            if (p == null) {
                return no(-1);
            }
            if (what < 0 || what > 4) {
                return no(-2);
            }
            return new int[] {p.kind, p.directions, p.count, p.power, p.turn}[what];
        }

        int part(int s, int n, int j) {
            Points p = get(s);
            if (p == null || n < 0 || n >= p.count || j < 0 || j >= p.directions) {
                return no(-1);
            }
            return p.part(n, j);
        }

        int next(int s) {
            Points p = get(s);
            if (p == null) {
                return no(-1);
            }
            if (p.turn == 1000000) {
                return no(-6);
            }
            int t = p.turn % p.count;
            p.turn++;
            told++;
            return p.kind == 3 ? t : t ^ t / 2;
        }

        int skip(int s, int turn) {
            Points p = get(s);
            if (p == null) {
                return no(-1);
            }
            if (turn < 0) {
                return no(-4);
            }
            if (turn > 1000000) {
                return no(-6);
            }
            int was = p.turn;
            p.turn = turn;
            return was;
        }

        int side(int j, int l, int h) {
            if (j < 0 || j > 5) {
                return no(-1);
            }
            low[j] = l;
            high[j] = h;
            return 1;
        }

        int mark(int j, int v) {
            if (j < 0 || j > 5) {
                return no(-1);
            }
            int was = mark[j];
            mark[j] = v;
            return was;
        }

        int count(int s) {
            Points p = get(s);
            if (p == null) {
                return no(-1);
            }
            int in = 0;
            for (int n = 0; n < p.count; n++) {
                boolean inside = true;
                for (int j = 0; j < p.directions; j++) {
                    inside &= low[j] <= p.part(n, j) && p.part(n, j) < high[j];
                }
                in += inside ? 1 : 0;
            }
            return in;
        }

        int back(int s) {
            Points p = get(s);
            if (p == null) {
                return no(-1);
            }
            for (int n = 0; n < p.count; n++) {
                boolean same = true;
                for (int j = 0; j < p.directions; j++) {
                    same &= p.part(n, j) == mark[j];
                }
                if (same) {
                    return n;
                }
            }
            return -9;
        }

        int shapeFault(Points p) {
            if (p == null) {
                return -1;
            }
            if (p.kind == 3) {
                return -2;
            }
            int sum = 0;
            for (int j = 0; j < p.directions; j++) {
                if (mark[j] < 0 || mark[j] > p.power) {
                    return -3;
                }
                sum += mark[j];
            }
            return sum > 16 ? -6 : 0;
        }

        /** How many points each box of a shape has, in the boxes' order. */
        static int[] boxes(Points p, int[] dirs, int[] marks) {
            int sum = 0;
            for (int i = 0; i < dirs.length; i++) {
                sum += marks[i];
            }
            int[] in = new int[1 << sum];
            for (int n = 0; n < p.count; n++) {
                int box = 0;
                for (int i = 0; i < dirs.length; i++) {
                    int wide = p.count / (1 << marks[i]);
                    box = box * (1 << marks[i]) + p.part(n, dirs[i]) / wide;
                }
                in[box]++;
            }
            return in;
        }

        static int[] upTo(int d) {
            int[] dirs = new int[d];
            for (int j = 0; j < d; j++) {
                dirs[j] = j;
            }
            return dirs;
        }

        int even(int s) {
            Points p = get(s);
            int fault = shapeFault(p);
            if (fault != 0) {
                return no(fault);
            }
            int[] in = boxes(p, upTo(p.directions), mark);
            for (int b : in) {
                if (b != in[0]) {
                    return 0;
                }
            }
            return 1;
        }

        int why(int s) {
            Points p = get(s);
            if (shapeFault(p) != 0) {
                return -9;
            }
            int[] in = boxes(p, upTo(p.directions), mark);
            for (int b : in) {
                if (Ratio.of(b, 1).compareTo(Ratio.of(p.count, in.length)) != 0) {
                    return b;
                }
            }
            return -9;
        }

        int grade(int s) {
            Points p = get(s);
            if (p == null) {
                return no(-1);
            }
            if (p.kind > 2) {
                return no(-2);
            }
            return gradeOf(p, upTo(p.directions));
        }

        int pair(int s, int j, int k) {
            Points p = get(s);
            if (p == null || j < 0 || k < 0 || j >= p.directions || k >= p.directions || j == k) {
                return no(-1);
            }
            if (p.kind > 2) {
                return no(-2);
            }
            return gradeOf(p, new int[] {j, k});
        }

        static int gradeOf(Points p, int[] dirs) {
            int t = 0;
            while (!allJust(p, dirs, new int[dirs.length], 0, p.power - t, 1 << t)) {
                t++;
            }
            return t;
        }

        static boolean allJust(Points p, int[] dirs, int[] marks, int at, int left, int just) {
            if (at == dirs.length - 1) {
                marks[at] = left;
                for (int b : boxes(p, dirs, marks)) {
                    if (b != just) {
                        return false;
                    }
                }
                return true;
            }
            for (int k = 0; k <= left; k++) {
                marks[at] = k;
                if (!allJust(p, dirs, marks, at + 1, left - k, just)) {
                    return false;
                }
            }
            return true;
        }

        static Ratio share(Points p, int[] highs, boolean closed) {
            int in = 0;
            for (int n = 0; n < p.count; n++) {
                boolean inside = true;
                for (int j = 0; j < p.directions; j++) {
                    inside &= closed ? p.part(n, j) <= highs[j] : p.part(n, j) < highs[j];
                }
                in += inside ? 1 : 0;
            }
            return Ratio.of(in, p.count);
        }

        static Ratio size(Points p, int[] highs) {
            Ratio size = Ratio.of(1, 1);
            for (int j = 0; j < p.directions; j++) {
                size = size.times(Ratio.of(highs[j], p.count));
            }
            return size;
        }

        static long tell(Ratio r, int what) {
            return (what == 0 ? r.top : r.bottom).longValueExact();
        }

        long gap(int s, boolean closed, int what) {
            Points p = get(s);
            if (p == null) {
                return noLong(-1);
            }
            if (what != 0 && what != 1) {
                return noLong(-2);
            }
            for (int j = 0; j < p.directions; j++) {
                if (high[j] < 0 || high[j] > p.count) {
                    return noLong(-3);
                }
            }
            Ratio gap = share(p, high, closed).minus(size(p, high));
            return tell(Ratio.of(gap.top.abs(), gap.bottom), what);
        }

        Ratio worstGap;
        boolean worstClosed;
        int[] worstHighs;

        long worst(int s, int what) {
            Points p = get(s);
            if (p == null) {
                return noLong(-1);
            }
            if (what < 0 || what > 2 && what - 3 >= p.directions) {
                return noLong(-2);
            }
            if (p.directions > 3 || p.count > 64 || p.directions == 3 && p.count > 16) {
                return noLong(-6);
            }
            worstGap = null;
            corner(p, new int[p.directions], 0, true);
            if (what < 2) {
                return tell(worstGap, what);
            }
            return what == 2 ? (worstClosed ? 1 : 0) : worstHighs[what - 3];
        }

        void corner(Points p, int[] highs, int j, boolean partsAlone) {
            if (j == p.directions) {
                Ratio size = size(p, highs);
                worse(size.minus(share(p, highs, false)), highs, false);
                if (partsAlone) {
                    worse(share(p, highs, true).minus(size), highs, true);
                }
                return;
            }
            for (int h = 0; h < p.count; h++) {
                boolean isPart = false;
                for (int n = 0; n < p.count; n++) {
                    isPart |= p.part(n, j) == h;
                }
                if (isPart) {
                    highs[j] = h;
                    corner(p, highs, j + 1, partsAlone);
                }
            }
            highs[j] = p.count;
            corner(p, highs, j + 1, false);
        }

        void worse(Ratio gap, int[] highs, boolean closed) {
            if (worstGap == null || gap.compareTo(worstGap) > 0) {
                worstGap = gap;
                worstClosed = closed;
                worstHighs = highs.clone();
            }
        }

        long square(int s, int what) {
            Points p = get(s);
            if (p == null) {
                return noLong(-1);
            }
            if (what != 0 && what != 1) {
                return noLong(-2);
            }
            if (p.directions > 3 || p.count > 64) {
                return noLong(-6);
            }
            return tell(squareOf(p), what);
        }

        static Ratio squareOf(Points p) {
            Ratio one = Ratio.of(1, 1);
            Ratio third = one;
            Ratio half = Ratio.of(2, 1);
            for (int j = 0; j < p.directions; j++) {
                third = third.times(Ratio.of(1, 3));
                half = half.times(Ratio.of(1, 2));
            }
            Ratio single = Ratio.of(0, 1);
            Ratio both = Ratio.of(0, 1);
            for (int n = 0; n < p.count; n++) {
                Ratio product = one;
                for (int j = 0; j < p.directions; j++) {
                    Ratio x = Ratio.of(p.part(n, j), p.count);
                    product = product.times(one.minus(x.times(x)));
                }
                single = single.plus(product);
                for (int m = 0; m < p.count; m++) {
                    long top = 1;
                    long bottom = 1;
                    for (int j = 0; j < p.directions; j++) {
                        top *= p.count - Math.max(p.part(n, j), p.part(m, j));
                        bottom *= p.count;
                    }
                    both = both.plus(Ratio.of(top, bottom));
                }
            }
            Ratio share = Ratio.of(1, p.count);
            return third.minus(half.times(share).times(single)).plus(share.times(share).times(both));
        }

        static long waveOf(Points p, int[] marks) {
            long wave = 0;
            for (int n = 0; n < p.count; n++) {
                int bits = 0;
                for (int j = 0; j < p.directions; j++) {
                    bits += Integer.bitCount(p.part(n, j) & marks[j]);
                }
                wave += bits % 2 == 1 ? -1 : 1;
            }
            return wave;
        }

        long wave(int s) {
            Points p = get(s);
            if (p == null) {
                return noLong(-1);
            }
            if (p.kind == 3) {
                return noLong(-2);
            }
            for (int j = 0; j < p.directions; j++) {
                if (mark[j] < 0 || mark[j] >= p.count) {
                    return noLong(-3);
                }
            }
            return waveOf(p, mark);
        }

        long waves(int s, int w, int i) {
            Points p = get(s);
            if (p == null) {
                return noLong(-1);
            }
            if (p.kind == 3) {
                return noLong(-2);
            }
            if (w < 0 || i < 0) {
                return noLong(-4);
            }
            if (p.power * p.directions > 12) {
                return noLong(-6);
            }
            int[] marks = new int[p.directions];
            int found = 0;
            while (step(marks, p.count)) {
                int bits = 0;
                for (int v : marks) {
                    bits += Integer.bitCount(v);
                }
                if (bits >= 1 && bits <= w && waveOf(p, marks) != 0 && found++ == i) {
                    long v = 0;
                    for (int m : marks) {
                        v = p.count * v + m;
                    }
                    return v;
                }
            }
            return -9;
        }

        /** The next row of marks; false after the last. */
        static boolean step(int[] marks, int count) {
            for (int j = marks.length - 1; j >= 0; j--) {
                if (++marks[j] < count) {
                    return true;
                }
                marks[j] = 0;
            }
            return false;
        }

        long sum(int s, int what) {
            Points p = get(s);
            if (p == null) {
                return noLong(-1);
            }
            if (what < 0 || what > 2) {
                return noLong(-2);
            }
            long all = 0;
            for (int j = 0; j < p.directions; j++) {
                if (mark[j] < 0) {
                    return noLong(-3);
                }
                all += mark[j];
            }
            if (all > 5) {
                return noLong(-3);
            }
            BigInteger sum = BigInteger.ZERO;
            Ratio places = Ratio.of(0, 1);
            Ratio due = Ratio.of(1, 1);
            for (int n = 0; n < p.count; n++) {
                BigInteger product = BigInteger.ONE;
                BigInteger bottom = BigInteger.ONE;
                for (int j = 0; j < p.directions; j++) {
                    product = product.multiply(BigInteger.valueOf(p.part(n, j)).pow(mark[j]));
                    bottom = bottom.multiply(BigInteger.valueOf(p.count).pow(mark[j]));
                }
                sum = sum.add(product);
                places = places.plus(Ratio.of(product, bottom));
            }
            for (int j = 0; j < p.directions; j++) {
                due = due.times(Ratio.of(1, mark[j] + 1));
            }
            if (what == 0) {
                return sum.longValueExact();
            }
            return tell(places.times(Ratio.of(1, p.count)).minus(due), what - 1);
        }

        int status(int what) {
            if (what == 0) {
                return all.size();
            }
            if (what == 1) {
                return told;
            }
            return what >= 11 && what <= 16 ? refused[what - 10] : -9;
        }
    }
}
