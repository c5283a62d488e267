import java.math.BigInteger;
import java.util.ArrayList;
import java.util.Arrays;
import java.util.List;
import java.util.Random;

/**
 * What the promises say of one another, asked by the public face alone: no model stands beside the
 * class here. SQUARE is checked as the mean that it is, not by the sums that the document makes of it.
 */
public final class RelationTest {
    private static final int MOST_CALLS = 512;
    private static final int SAMPLES = 30;

    private static int wrong = 0;
    private static int held = 0;
    private static String about = "";

    public static void main(String[] args) {
        for (int maker = 0; maker < Made.NAMES.length; maker++) {
            for (int seed = 0; seed < 4; seed++) {
                about = Made.NAMES[maker] + ", seed " + seed + ": ";
                squareIsTheMean(new Made(maker, seed));
                worstIsReached(new Made(maker, seed));
                noGapIsWorse(new Made(maker, seed), new Random(seed));
                nextTakesEachPointOnce(new Made(maker, seed));
                backFindsEachPoint(new Made(maker, seed));
                boxesAddUp(new Made(maker, seed), new Random(seed));
                sumsAgree(new Made(maker, seed), new Random(seed));
                if (new Made(maker, seed).kind() != 3) {
                    wavesAreThoseOfWave(new Made(maker, seed));
                    whyIsTheFirstBox(maker, seed);
                }
                if (new Made(maker, seed).kind() < 3) {
                    gradeIsThatOfShapes(new Made(maker, seed));
                    partsMakeTheTable(new Made(maker, seed));
                }
            }
        }
        System.out.println(wrong == 0 ? held + " relations hold" : wrong + " relations are broken");
        if (wrong != 0) {
            System.exit(1);
        }
    }

    private static void need(boolean holds, String relation) {
        held++;
        if (!holds) {
            wrong++;
            System.out.println(about + relation);
        }
    }

    /** One object with one SCATTER of each make, never asked more than the document allows. */
    private static final class Made {
        static final String[] NAMES = {"table", "ladder", "turned", "grid", "lots", "flat grid", "one point"};

        final EvenScatter x = new EvenScatter();
        private int calls = 0;
        final int s;
        final int directions;
        final int count;
        final int power;
        final int[][] parts;

        Made(int maker, int seed) {
            s = make(maker, new Random(31L * maker + seed));
            calls = 30;
            directions = x.scatter(s, 1);
            count = x.scatter(s, 2);
            power = x.scatter(s, 3);
            parts = new int[count][directions];
            for (int n = 0; n < count; n++) {
                for (int j = 0; j < directions; j++) {
                    parts[n][j] = ask().part(s, n, j);
                }
            }
        }

        private int make(int maker, Random r) {
            if (maker == 0) {
                x.table(2, 3);
                for (int i = 0; i < 6; i++) {
                    x.row(0, i / 3, i % 3, r.nextInt(8));
                }
                return 0;
            }
            if (maker == 1 || maker == 2) {
                x.ladder(3 + r.nextInt(2));
                x.direction(0, 3, 1L);
                x.direction(0, r.nextBoolean() ? 7 : 11, 0x050301L);
                return maker == 1 ? 0 : turn(r);
            }
            if (maker == 3) {
                int size = 2 + r.nextInt(15);
                x.grid(size, 2);
                x.step(0, 0, 1);
                x.step(0, 1, r.nextInt(size));
                return 0;
            }
            if (maker == 4) {
                return x.lots(1 + r.nextInt(3), 2 + r.nextInt(3), r.nextLong());
            }
            return maker == 5 ? x.grid(5, 3) : x.table(3, 0);
        }

        private int turn(Random r) {
            x.turned(0);
            for (int j = 0; j < 3; j++) {
                x.mask(1, j, r.nextInt(8));
            }
            return 1;
        }

        EvenScatter ask() {
            calls++;
            if (calls > MOST_CALLS) {
                throw new IllegalStateException("more calls than the document allows");
            }
            return x;
        }

        boolean mayAsk(int more) {
            return calls + more <= MOST_CALLS;
        }

        int kind() {
            return ask().scatter(s, 0);
        }

        void marks(int... marks) {
            for (int j = 0; j < marks.length; j++) {
                ask().mark(j, marks[j]);
            }
        }

        void highs(int[] highs) {
            for (int j = 0; j < highs.length; j++) {
                ask().side(j, 0, highs[j]);
            }
        }
    }

    private static BigInteger big(long value) {
        return BigInteger.valueOf(value);
    }

    private static boolean lowest(long top, long bottom) {
        return bottom > 0 && big(top).gcd(big(bottom)).equals(BigInteger.ONE);
    }

    /** Below or at 0, as a is below or at b. */
    private static int compare(long topA, long bottomA, long topB, long bottomB) {
        return big(topA).multiply(big(bottomB)).compareTo(big(topB).multiply(big(bottomA)));
    }

    /**
     * The mean of the squared GAP, cell by cell: between two neighbouring places no point comes or
     * goes, so there it is the integral of the square of a number less a product.
     */
    private static void squareIsTheMean(Made m) {
        int n = m.count;
        int d = m.directions;
        BigInteger top = BigInteger.ZERO;
        int[] cell = new int[d];
        for (int number = 0; number < Math.pow(n, d); number++) {
            int rest = number;
            BigInteger once = BigInteger.ONE;
            BigInteger twice = BigInteger.ONE;
            for (int j = 0; j < d; j++) {
                cell[j] = rest % n;
                rest /= n;
                once = once.multiply(big(3L * (2 * cell[j] + 1)));
                twice = twice.multiply(big(2L * (3 * cell[j] * cell[j] + 3 * cell[j] + 1)));
            }
            long inside = inside(m, cell);
            top = top.add(big(n).pow(2 * d).multiply(big(6).pow(d)).multiply(big(inside * inside)));
            top = top.subtract(big(n).pow(d + 1).multiply(once).multiply(big(2 * inside)));
            top = top.add(big(n).pow(2).multiply(twice));
        }
        BigInteger bottom = big(n).pow(3 * d + 2).multiply(big(6).pow(d));
        long told = m.ask().square(m.s, 0);
        long under = m.ask().square(m.s, 1);
        need(big(told).multiply(bottom).equals(top.multiply(big(under))),
            "square is " + told + " / " + under + ", the mean is " + top + " / " + bottom);
        need(lowest(told, under), "square has a common factor");
    }

    private static long inside(Made m, int[] highest) {
        long inside = 0;
        for (int[] point : m.parts) {
            boolean in = true;
            for (int j = 0; j < point.length; j++) {
                in &= point[j] <= highest[j];
            }
            inside += in ? 1 : 0;
        }
        return inside;
    }

    private static int[] worstHighs(Made m) {
        int[] highs = new int[m.directions];
        for (int j = 0; j < m.directions; j++) {
            highs[j] = (int) m.ask().worst(m.s, 3 + j);
        }
        return highs;
    }

    private static void worstIsReached(Made m) {
        m.highs(worstHighs(m));
        boolean closed = m.ask().worst(m.s, 2) == 1;
        long top = m.ask().worst(m.s, 0);
        long bottom = m.ask().worst(m.s, 1);
        need(top == m.ask().gap(m.s, closed, 0) && bottom == m.ask().gap(m.s, closed, 1),
            "worst is not the gap of its own corner");
        need(lowest(top, bottom), "worst has a common factor");
    }

    /** WORST looks at few corners, but no corner at all, open or closed, has a greater GAP. */
    private static void noGapIsWorse(Made m, Random r) {
        long top = m.ask().worst(m.s, 0);
        long bottom = m.ask().worst(m.s, 1);
        int[] first = worstHighs(m);
        for (int i = 0; i < SAMPLES && m.mayAsk(m.directions + 4); i++) {
            int[] highs = new int[m.directions];
            for (int j = 0; j < highs.length; j++) {
                highs[j] = r.nextInt(m.count + 1);
            }
            m.highs(highs);
            for (int c = 0; c < 2; c++) {
                long gapTop = m.ask().gap(m.s, c == 1, 0);
                long gapBottom = m.ask().gap(m.s, c == 1, 1);
                need(compare(gapTop, gapBottom, top, bottom) <= 0, "a gap is above the worst");
                need(lowest(gapTop, gapBottom), "gap has a common factor");
                long signed = inside(m, c == 1 ? highs : lessOne(highs)) * (long) Math.pow(m.count, m.directions - 1)
                    - product(highs);
                boolean counts = c == 0 ? signed < 0 && placesOrCount(m, highs) : signed > 0 && places(m, highs);
                need(!counts || compare(gapTop, gapBottom, top, bottom) < 0 || notBefore(highs, first),
                    "a corner of the same gap comes before the worst");
            }
        }
    }

    private static int[] lessOne(int[] highs) {
        int[] less = highs.clone();
        for (int j = 0; j < less.length; j++) {
            less[j]--;
        }
        return less;
    }

    private static long product(int[] highs) {
        long product = 1;
        for (int high : highs) {
            product *= high;
        }
        return product;
    }

    private static boolean isPart(Made m, int j, int high) {
        for (int[] point : m.parts) {
            if (point[j] == high) {
                return true;
            }
        }
        return false;
    }

    private static boolean places(Made m, int[] highs) {
        for (int j = 0; j < highs.length; j++) {
            if (!isPart(m, j, highs[j])) {
                return false;
            }
        }
        return true;
    }

    private static boolean placesOrCount(Made m, int[] highs) {
        for (int j = 0; j < highs.length; j++) {
            if (highs[j] != m.count && !isPart(m, j, highs[j])) {
                return false;
            }
        }
        return true;
    }

    private static boolean notBefore(int[] highs, int[] first) {
        for (int j = 0; j < highs.length; j++) {
            if (highs[j] != first[j]) {
                return highs[j] > first[j];
            }
        }
        return true;
    }

    /** In COUNT turns each point once; neighbours differ in one bit (of a GRID by 1). */
    private static void nextTakesEachPointOnce(Made m) {
        int kind = m.kind();
        boolean[] seen = new boolean[m.count];
        int before = kind == 3 ? -1 : m.count / 2;
        for (int turn = 0; turn < m.count; turn++) {
            int point = m.ask().next(m.s);
            need(point >= 0 && point < m.count && !seen[point], "next tells " + point + " again");
            seen[Math.floorMod(point, m.count)] = true;
            need(kind == 3 ? point == before + 1 : m.count == 1 || Integer.bitCount(point ^ before) == 1,
                "next tells " + point + " after " + before);
            before = point;
        }
        need(m.ask().next(m.s) == 0, "after COUNT turns it begins again");
        need(m.ask().scatter(m.s, 4) == m.count + 1 && m.ask().status(1) == m.count + 1, "turns are counted");
    }

    private static void backFindsEachPoint(Made m) {
        for (int n = 0; n < m.count && m.mayAsk(m.directions + 1); n++) {
            m.marks(m.parts[n]);
            int least = 0;
            while (!Arrays.equals(m.parts[least], m.parts[n])) {
                least++;
            }
            need(m.ask().back(m.s) == least, "back of the parts of " + n);
        }
    }

    /** A BOX that is cut in two has the points of both halves. */
    private static void boxesAddUp(Made m, Random r) {
        for (int j = 0; j < m.directions; j++) {
            m.ask().side(j, 0, m.count);
        }
        need(m.ask().count(m.s) == m.count, "all points are in the whole box");
        for (int i = 0; i < SAMPLES && m.mayAsk(5); i++) {
            int j = r.nextInt(m.directions);
            int low = r.nextInt(m.count);
            int high = low + r.nextInt(m.count - low + 1);
            int cut = low + r.nextInt(high - low + 1);
            m.ask().side(j, low, high);
            int whole = m.ask().count(m.s);
            m.ask().side(j, low, cut);
            int lower = m.ask().count(m.s);
            m.ask().side(j, cut, high);
            need(lower + m.ask().count(m.s) == whole, "both halves have the points of the box");
        }
    }

    private static void sumsAgree(Made m, Random r) {
        for (int i = 0; i < SAMPLES && m.mayAsk(m.directions + 3); i++) {
            int[] marks = new int[m.directions];
            int total = r.nextInt(6);
            for (int k = 0; k < total; k++) {
                marks[r.nextInt(m.directions)]++;
            }
            m.marks(marks);
            long expected = 1;
            for (int mark : marks) {
                expected *= mark + 1;
            }
            long sum = m.ask().sum(m.s, 0);
            long top = m.ask().sum(m.s, 1);
            long bottom = m.ask().sum(m.s, 2);
            BigInteger whole = big(m.count).pow(total + 1);
            BigInteger difference = big(sum).multiply(big(expected)).subtract(whole);
            need(difference.multiply(big(bottom)).equals(whole.multiply(big(expected)).multiply(big(top))),
                "the difference is that of the sum");
            need(lowest(top, bottom), "sum has a common factor");
        }
    }

    /** waves() tells just those rows of MARKS of which wave() is not 0, in order. */
    private static void wavesAreThoseOfWave(Made m) {
        int bits = m.power * m.directions;
        if (bits > 6) {
            need((m.ask().waves(m.s, 1, 0) == -994) == (bits > 12), "waves is refused above 12 bits alone");
            return;
        }
        List<Long> due = new ArrayList<>();
        for (int v = 1; v < 1 << bits && m.mayAsk(m.directions + 1); v++) {
            int[] marks = new int[m.directions];
            for (int j = 0; j < m.directions; j++) {
                marks[j] = (v >> (m.power * (m.directions - 1 - j))) & (m.count - 1);
            }
            m.marks(marks);
            if (m.ask().wave(m.s) != 0) {
                due.add((long) v);
            }
        }
        for (int i = 0; i < due.size() && m.mayAsk(1); i++) {
            need(m.ask().waves(m.s, bits, i) == due.get(i), "waves, the " + i + "-th");
        }
        need(m.ask().waves(m.s, bits, due.size()) == -9, "waves has no more");
    }

    private static void whyIsTheFirstBox(int maker, int seed) {
        Random r = new Random(seed);
        for (int i = 0; i < SAMPLES; i++) {
            Made m = new Made(maker, seed);
            int[] marks = new int[m.directions];
            // One cut more than there are figures: then no box has the mean, and it may be empty.
            for (int cut = 0; cut < 1 + i % (m.power + 1) && m.power > 0; cut++) {
                marks[r.nextInt(m.directions)]++;
            }
            for (int j = 0; j < m.directions; j++) {
                marks[j] = Math.min(marks[j], m.power);
            }
            m.marks(marks);
            int first = firstUneven(m, marks);
            need(m.ask().why(m.s) == first, "why is " + first + " by count");
            need(m.ask().even(m.s) == (first == -9 ? 1 : 0), "even is not as why");
        }
    }

    /** By count(), box after box, DIRECTION 0 first. */
    private static int firstUneven(Made m, int[] marks) {
        int cuts = 0;
        for (int mark : marks) {
            cuts += mark;
        }
        for (int box = 0; box < 1 << cuts; box++) {
            int left = cuts;
            for (int j = 0; j < m.directions; j++) {
                left -= marks[j];
                int number = (box >> left) & ((1 << marks[j]) - 1);
                int width = m.count >> marks[j];
                m.ask().side(j, number * width, (number + 1) * width);
            }
            int inside = m.ask().count(m.s);
            if (inside << cuts != m.count) {
                return inside;
            }
        }
        return -9;
    }

    /** Whether all SHAPES whose MARKS, from DIRECTION j on, have the sum left are EVEN. */
    private static boolean allEven(Made m, int j, int left) {
        if (j == m.directions - 1) {
            m.ask().mark(j, left);
            boolean even = m.ask().even(m.s) == 1;
            need(even == (m.ask().why(m.s) == -9), "why tells -9 just if it is even");
            return even;
        }
        for (int mark = 0; mark <= left; mark++) {
            m.ask().mark(j, mark);
            if (!allEven(m, j + 1, left - mark)) {
                return false;
            }
        }
        return true;
    }

    private static void gradeIsThatOfShapes(Made m) {
        int grade = 0;
        while (grade < m.power && !allEven(m, 0, m.power - grade)) {
            grade++;
        }
        need(m.ask().grade(m.s) == grade, "grade is " + grade + " by its shapes");
    }

    /** The PARTS of the points 2 to the k tell the ROWS; a MASK is the PART of point 0. */
    private static void partsMakeTheTable(Made m) {
        int d = m.directions;
        EvenScatter y = new EvenScatter();
        int all = y.table(d, m.power);
        for (int j = 0; j < d; j++) {
            setRows(y, all, j, m, j);
        }
        int same = y.turned(all);
        for (int j = 0; j < d; j++) {
            y.mask(same, j, m.parts[0][j]);
        }
        for (int n = 0; n < m.count; n++) {
            for (int j = 0; j < d; j++) {
                need(y.part(same, n, j) == m.parts[n][j], "the table has another part");
            }
        }
        need(y.grade(all) == m.ask().grade(m.s) && y.grade(same) == y.grade(all), "the table has another grade");
        for (int j = 0; j < d; j++) {
            int k = (j + 1) % d;
            int two = y.table(2, m.power);
            setRows(y, two, 0, m, j);
            setRows(y, two, 1, m, k);
            need(y.grade(two) == m.ask().pair(m.s, j, k), "pair is not the grade of the two alone");
        }
    }

    private static void setRows(EvenScatter y, int s, int to, Made m, int from) {
        for (int i = 0; i < m.power; i++) {
            int row = 0;
            for (int k = 0; k < m.power; k++) {
                int column = m.parts[1 << k][from] ^ m.parts[0][from];
                row |= ((column >> (m.power - 1 - i)) & 1) << k;
            }
            y.row(s, to, i, row);
        }
    }
}
