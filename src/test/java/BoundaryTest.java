import java.math.BigInteger;

/**
 * The sentences of the document that name a bound, in its order, each with the last value that
 * is allowed and the first that is not on each side. What a refused call leaves as it was is
 * seen by RefusalTest.
 */
public final class BoundaryTest {
    private static final int LEAST = Integer.MIN_VALUE;
    private static final int GREATEST = Integer.MAX_VALUE;

    private static int wrong = 0;
    private static int sentences = 0;
    private static String sentence = "";

    private static void sentence(String words) {
        sentences++;
        sentence = words;
    }

    private static void due(String call, long got, long want) {
        if (got != want) {
            wrong++;
            System.out.println("'" + sentence + "': " + call + " answered " + got + ", due is " + want);
        }
    }

    public static void main(String[] args) {
        numbersOfScatters();
        fiveHundredAndTwelveCalls();
        points();
        tables();
        ladders();
        polynomials();
        firstNumbers();
        turnedOnes();
        grids();
        lots();
        theTray();
        boxes();
        cornerBoxes();
        gaps();
        shapes();
        uneven();
        gradesOfAll();
        gradesOfTwo();
        worst();
        worstOfSeveral();
        squares();
        signs();
        wavesOf();
        sums();
        fractions();
        refusalsAsLongs();
        turnsAndSkips();
        whats();
        statuses();
        System.out.println(wrong == 0 ? sentences + " sentences hold" : wrong + " answers are not as due");
        if (wrong != 0) {
            System.exit(1);
        }
    }

    private static void setMarks(EvenScatter x, int... marks) {
        for (int j = 0; j < marks.length; j++) {
            x.mark(j, marks[j]);
        }
    }

    private static void setHighs(EvenScatter x, int... highs) {
        for (int j = 0; j < highs.length; j++) {
            x.side(j, 0, highs[j]);
        }
    }

    /** All points of a TURNED at one place; it is scatter 1, of the TABLE 0. */
    private static EvenScatter allAt(int directions, int power, int place) {
        EvenScatter x = new EvenScatter();
        x.table(directions, power);
        x.turned(0);
        for (int j = 0; j < directions; j++) {
            due("mask", x.mask(1, j, place), 0);
        }
        return x;
    }

    /** What a GRID, whose STEPS are 0, has too: all points at 0. It is scatter 0. */
    private static EvenScatter allAtNothing(int count, int directions) {
        EvenScatter x = new EvenScatter();
        due("grid(" + count + ", " + directions + ")", x.grid(count, directions), 0);
        return x;
    }

    private static EvenScatter one(int directions, int power) {
        EvenScatter x = new EvenScatter();
        due("table(" + directions + ", " + power + ")", x.table(directions, power), 0);
        return x;
    }

    private static void numbersOfScatters() {
        sentence("No SCATTERS");
        EvenScatter x = new EvenScatter();
        due("status(0)", x.status(0), 0);
        due("scatter(0, 0)", x.scatter(0, 0), -1);
        due("scatter(-1, 0)", x.scatter(-1, 0), -1);
        due("why(0)", x.why(0), -9);
        due("worst(0, 0)", x.worst(0, 0), -999);
        sentence("SCATTERS have numbers from 0 on (12 at most)");
        for (int s = 0; s < 12; s++) {
            int made = s % 4 == 0 ? x.table(1, 1) : s % 4 == 1 ? x.ladder(1) : s % 4 == 2 ? x.grid(2, 1) : x.lots(1, 1, 1L);
            due("the " + s + "-th", made, s);
            due("its kind", x.scatter(s, 0), new int[] {0, 1, 3, 4}[s % 4]);
            due("the next is none", x.scatter(s + 1, 0), -1);
            due("status(0)", x.status(0), s + 1);
        }
        due("table, the 13th", x.table(1, 1), -6);
        due("ladder, the 13th", x.ladder(1), -6);
        due("turned, the 13th", x.turned(0), -6);
        due("grid, the 13th", x.grid(1, 1), -6);
        due("lots, the 13th", x.lots(1, 1, 1L), -6);
        due("status(0)", x.status(0), 12);
        due("the last is there", x.part(11, 1, 0), x.part(3, 1, 0));
        due("of 12 a LADDER may still grow", x.direction(9, 3, 1L), 1);
        due("and a ROW be set", x.row(8, 0, 0, 1), 0);
        EvenScatter y = new EvenScatter();
        y.table(1, 1);
        for (int s = 1; s < 12; s++) {
            due("turned, the " + s + "-th", y.turned(s - 1), s);
        }
        due("turned, the 13th", y.turned(11), -6);
    }

    private static void fiveHundredAndTwelveCalls() {
        sentence("An object is used for at most 512 calls");
        EvenScatter x = new EvenScatter();
        x.table(1, 8);
        for (int turn = 0; turn < 510; turn++) {
            int at = turn % 256;
            due("next, turn " + turn, x.next(0), at ^ at / 2);
        }
        due("the 512th call", x.status(1), 510);
    }

    private static void points() {
        sentence("COUNT points, numbered from 0 on");
        EvenScatter x = one(6, 8);
        due("the first point", x.part(0, 0, 0), 0);
        due("the last point, the last direction", x.part(0, 255, 5), 0);
        due("point -1", x.part(0, -1, 0), -1);
        due("point COUNT", x.part(0, 256, 0), -1);
        due("direction -1", x.part(0, 0, -1), -1);
        due("direction 6", x.part(0, 0, 6), -1);
        EvenScatter small = one(1, 0);
        due("the only point", small.part(0, 0, 0), 0);
        due("point 1 of one", small.part(0, 1, 0), -1);
        due("direction 1 of one", small.part(0, 0, 1), -1);
        sentence("a PART, 0 .. COUNT - 1");
        EvenScatter y = new EvenScatter();
        y.ladder(7);
        y.lots(1, 7, 5L);
        boolean[] seen = new boolean[128];
        for (int n = 0; n < 128; n++) {
            int part = y.part(0, n, 0);
            due("part in its bounds", part >= 0 && part < 128 ? 1 : 0, 1);
            seen[part & 127] = true;
            int lot = y.part(1, n, 0);
            due("part of LOTS in its bounds", lot >= 0 && lot < 128 ? 1 : 0, 1);
        }
        due("0 is a part", seen[0] ? 1 : 0, 1);
        due("COUNT - 1 is a part", seen[127] ? 1 : 0, 1);
    }

    private static void tables() {
        sentence("COUNT is 2 to the POWER (0 .. 8)");
        EvenScatter x = new EvenScatter();
        due("power -1", x.table(1, -1), -4);
        due("power 9", x.table(1, 9), -6);
        for (int power = 0; power <= 8; power++) {
            due("power " + power, x.table(1 + power % 6, power), power);
            due("COUNT", x.scatter(power, 2), 1 << power);
            due("POWER", x.scatter(power, 3), power);
        }
        sentence("-4 directions below 1; -6 above 6");
        due("directions 0", x.table(0, 1), -4);
        due("directions 1", x.table(1, 1), 9);
        due("directions 6", x.table(6, 1), 10);
        due("DIRECTIONS", x.scatter(10, 1), 6);
        due("directions 7", x.table(7, 1), -6);
        sentence("each DIRECTION has POWER ROWS of POWER bits (0 at first)");
        EvenScatter y = one(6, 8);
        for (int j = 0; j < 6; j++) {
            for (int i = 0; i < 8; i++) {
                due("row(" + j + ", " + i + ") at first", y.row(0, j, i, 255), 0);
            }
        }
        due("part, all at first ROWS full", y.part(0, 1, 5), 255);
        for (int j = 0; j < 6; j++) {
            for (int i = 0; i < 8; i++) {
                due("row(" + j + ", " + i + ")", y.row(0, j, i, 0), 255);
            }
        }
        rowBounds();
        figures();
    }

    private static void rowBounds() {
        sentence("-3 i not 0 .. POWER - 1, or bits not 0 .. COUNT - 1");
        for (int power = 1; power <= 8; power++) {
            EvenScatter x = one(1, power);
            int count = 1 << power;
            due("i 0, bits COUNT - 1", x.row(0, 0, 0, count - 1), 0);
            due("i POWER - 1, bits 0", x.row(0, 0, power - 1, 0), power == 1 ? count - 1 : 0);
            due("i -1", x.row(0, 0, -1, 0), -3);
            due("i POWER", x.row(0, 0, power, 0), -3);
            due("bits -1", x.row(0, 0, 0, -1), -3);
            due("bits COUNT", x.row(0, 0, 0, count), -3);
        }
        EvenScatter x = one(1, 0);
        due("POWER 0 has no ROW", x.row(0, 0, 0, 0), -3);
        due("POWER 0 has no ROW", x.row(0, 0, -1, 0), -3);
    }

    private static void figures() {
        sentence("1 if the number of bits that both ROW i and n have is odd, else 0");
        EvenScatter x = one(1, 8);
        x.row(0, 0, 7, 255);
        due("no bit", x.part(0, 0, 0), 0);
        due("one bit", x.part(0, 128, 0), 1);
        due("two bits", x.part(0, 129, 0), 0);
        due("seven bits", x.part(0, 127, 0), 1);
        due("all eight bits", x.part(0, 255, 0), 0);
        sentence("the sum of FIGURE i times 2 to (POWER - 1 - i)");
        x.row(0, 0, 7, 0);
        x.row(0, 0, 0, 1);
        due("ROW 0 alone", x.part(0, 1, 0), 128);
        x.row(0, 0, 0, 0);
        x.row(0, 0, 7, 128);
        due("ROW POWER - 1 alone", x.part(0, 128, 0), 1);
        for (int i = 0; i < 8; i++) {
            x.row(0, 0, i, 1);
        }
        due("all ROWS", x.part(0, 1, 0), 255);
        EvenScatter y = one(1, 1);
        y.row(0, 0, 0, 1);
        due("POWER 1", y.part(0, 1, 0), 1);
    }

    private static void ladders() {
        sentence("A LADDER of one DIRECTION: its number. -4; -6");
        EvenScatter x = new EvenScatter();
        due("ladder(-1)", x.ladder(-1), -4);
        due("ladder(0)", x.ladder(0), 0);
        due("ladder(8)", x.ladder(8), 1);
        due("ladder(9)", x.ladder(9), -6);
        due("COUNT 1", x.scatter(0, 2), 1);
        due("COUNT 256", x.scatter(1, 2), 256);
        due("one DIRECTION", x.scatter(0, 1), 1);
        due("one DIRECTION", x.scatter(1, 1), 1);
        sentence("DIRECTION 0: ROW i has bit i alone");
        for (int n = 0; n < 256; n++) {
            due("part of " + n, x.part(1, n, 0), Integer.reverse(n) >>> 24);
        }
        due("of POWER 0", x.part(0, 0, 0), 0);
        sentence("A DIRECTION more of a LADDER: its number; -6 there are 6");
        for (int s = 0; s < 2; s++) {
            for (int j = 1; j < 6; j++) {
                due("not there yet", x.part(s, 0, j), -1);
                due("direction", x.direction(s, 3, 1L), j);
                due("there", x.part(s, 0, j), 0);
            }
            due("DIRECTIONS", x.scatter(s, 1), 6);
            due("a seventh", x.direction(s, 3, 1L), -6);
            due("no seventh", x.part(s, 0, 6), -1);
        }
    }

    /** In a LADDER the point 2 to (k - 1) has the PART v(k) times 2 to (POWER - k). */
    private static void dueNumbers(EvenScatter x, int s, int j, int power, int... v) {
        for (int k = 1; k <= power; k++) {
            due("v(" + k + ")", x.part(s, 1 << (k - 1), j), (long) v[k - 1] << (power - k));
        }
    }

    private static void polynomials() {
        sentence("a number of degree q (its highest bit is bit q, 1 .. 6); -4 p below 3; -6 p above 127");
        EvenScatter x = new EvenScatter();
        x.ladder(8);
        due("p 2", x.direction(0, 2, 1L), -4);
        due("p 3, the least", x.direction(0, 3, 1L), 1);
        dueNumbers(x, 0, 1, 8, 1, 3, 5, 15, 17, 51, 85, 255);
        due("p 127, the greatest", x.direction(0, 127, 0x010101010101L), 2);
        dueNumbers(x, 0, 2, 8, 1, 1, 1, 1, 1, 1, 127, 131);
        due("p 128", x.direction(0, 128, 0x010101010101L), -6);
        due("p 65, of degree 6", x.direction(0, 65, 0x3f1f0f070301L), 3);
        dueNumbers(x, 0, 3, 8, 1, 3, 7, 15, 31, 63, 65, 195);
        due("p 63, of degree 5", x.direction(0, 63, 0x0101010101L), 4);
        // v(6) = 1 ^ 32 ^ 2 ^ 4 ^ 8 ^ 16, v(7) = 1 ^ 32 ^ 2 * 63 ^ 4 ^ 8 ^ 16,
        // v(8) = 1 ^ 32 ^ 2 * 67 ^ 4 * 63 ^ 8 ^ 16.
        dueNumbers(x, 0, 4, 8, 1, 1, 1, 1, 1, 63, 67, 67);
        sentence("-3 bit 0 of p is 0");
        due("p 4", x.direction(0, 4, 0x0101L), -3);
        due("p 126", x.direction(0, 126, 0x010101010101L), -3);
        due("p 5", x.direction(0, 5, 0x0101L), 5);
        sentence("For k above q");
        for (int power = 0; power <= 8; power++) {
            EvenScatter y = new EvenScatter();
            y.ladder(power);
            due("degree 6 of POWER " + power, y.direction(0, 65, 0x3f1f0f070301L), 1);
            dueNumbers(y, 0, 1, power, 1, 3, 7, 15, 31, 63, 65, 195);
            due("degree 6 of POWER " + power + ", v(6) even", y.direction(0, 65, 0x021f0f070301L), -3);
        }
    }

    private static void firstNumbers() {
        sentence("FIRST numbers v(1) .. v(q), odd, v(k) below 2 to the k");
        for (int k = 1; k <= 6; k++) {
            EvenScatter x = new EvenScatter();
            x.ladder(8);
            int p = (1 << k) + 1;
            int shift = 8 * (k - 1);
            long others = 0x010101010101L & ~(255L << shift);
            int last = (1 << k) - 1;
            due("v(" + k + ") 1", x.direction(0, p, others | 1L << shift), 1);
            due("v(" + k + ") the greatest", x.direction(0, p, others | (long) last << shift), 2);
            due("its part", x.part(0, 1 << (k - 1), 2), (long) last << (8 - k));
            due("v(" + k + ") 0", x.direction(0, p, others), -3);
            due("v(" + k + ") even", x.direction(0, p, others | 2L << shift), -3);
            due("v(" + k + ") 2 to the k", x.direction(0, p, others | 1L << (shift + k)), -3);
            due("v(" + k + ") above", x.direction(0, p, others | (last + 2L) << shift), -3);
            due("v(" + k + ") 255", x.direction(0, p, others | 255L << shift), -3);
            due("bytes above the q-th", x.direction(0, p, 0x010101010101L | -1L << (8 * k)), 3);
        }
    }

    private static void turnedOnes() {
        sentence("the ROWS of a TABLE, LADDER or TURNED as they were when it was made");
        EvenScatter x = new EvenScatter();
        x.table(1, 8);
        x.row(0, 0, 0, 255);
        x.ladder(8);
        due("turned of a TABLE", x.turned(0), 2);
        due("turned of a LADDER", x.turned(1), 3);
        x.row(0, 0, 0, 0);
        x.direction(1, 3, 1L);
        due("the ROW as it was", x.part(2, 1, 0), 128);
        due("the DIRECTIONS as they were", x.scatter(3, 1), 1);
        due("no DIRECTION more", x.part(3, 0, 1), -1);
        sentence("of a TURNED its MASKS, too");
        x.mask(2, 0, 255);
        due("turned of a TURNED", x.turned(2), 4);
        x.mask(2, 0, 0);
        due("the MASK as it was", x.part(4, 0, 0), 255);
        due("the MASK is its own", x.part(2, 0, 0), 0);
        due("part of the ROWS, and the MASK", x.part(4, 1, 0), 127);
        sentence("a MASK of each DIRECTION, 0 at first; -3 not 0 .. COUNT - 1");
        due("mask 0", x.mask(3, 0, 0), 0);
        due("mask COUNT - 1", x.mask(3, 0, 255), 0);
        due("mask COUNT", x.mask(3, 0, 256), -3);
        due("mask -1", x.mask(3, 0, -1), -3);
        due("mask, what it was", x.mask(3, 0, 1), 255);
        x.ladder(0);
        x.turned(5);
        due("COUNT 1, mask 0", x.mask(6, 0, 0), 0);
        due("COUNT 1, mask 1", x.mask(6, 0, 1), -3);
        due("COUNT 1, mask -1", x.mask(6, 0, -1), -3);
        sentence("-2 a GRID, LOTS");
        x.grid(256, 1);
        x.lots(1, 8, 1L);
        due("turned of a GRID", x.turned(7), -2);
        due("turned of LOTS", x.turned(8), -2);
    }

    private static void grids() {
        sentence("GRID: COUNT is 1 .. 256; -4 count, directions below 1; -6 above 256, above 6");
        EvenScatter x = new EvenScatter();
        due("count 0", x.grid(0, 1), -4);
        due("count 1", x.grid(1, 6), 0);
        due("count 256", x.grid(256, 1), 1);
        due("count 257", x.grid(257, 1), -6);
        due("directions 0", x.grid(1, 0), -4);
        due("directions 7", x.grid(1, 7), -6);
        due("COUNT 1", x.scatter(0, 2), 1);
        due("COUNT 256", x.scatter(1, 2), 256);
        sentence("each DIRECTION has a STEP 0 .. COUNT - 1 (0 at first)");
        for (int j = 0; j < 6; j++) {
            due("COUNT 1, step 0", x.step(0, j, 0), 0);
            due("COUNT 1, step 1", x.step(0, j, 1), -3);
            due("COUNT 1, step -1", x.step(0, j, -1), -3);
        }
        due("step 0", x.step(1, 0, 0), 0);
        due("step 255", x.step(1, 0, 255), 0);
        due("step 256", x.step(1, 0, 256), -3);
        due("step -1", x.step(1, 0, -1), -3);
        due("step, what it was", x.step(1, 0, 255), 255);
        sentence("PART of n is n times STEP modulo COUNT");
        due("0 times 255", x.part(1, 0, 0), 0);
        due("1 times 255", x.part(1, 1, 0), 255);
        due("2 times 255", x.part(1, 2, 0), 254);
        due("255 times 255", x.part(1, 255, 0), 1);
        x.step(1, 0, 1);
        due("255 times 1", x.part(1, 255, 0), 255);
        x.step(1, 0, 128);
        due("2 times 128", x.part(1, 2, 0), 0);
    }

    private static void lots() {
        sentence("a long that goes round; PART is its highest POWER bits");
        BigInteger round = BigInteger.ONE.shiftLeft(64);
        BigInteger times = new BigInteger("6364136223846793005");
        BigInteger more = new BigInteger("1442695040888963407");
        long[] seeds = {0, 1, -1, Long.MAX_VALUE, Long.MIN_VALUE};
        for (long seed : seeds) {
            for (int power : new int[] {0, 1, 5}) {
                EvenScatter x = new EvenScatter();
                due("lots", x.lots(6, power, seed), 0);
                BigInteger w = BigInteger.valueOf(seed).mod(round);
                for (int n = 0; n < 1 << power; n++) {
                    for (int j = 0; j < 6; j++) {
                        w = w.multiply(times).add(more).mod(round);
                        due("part, seed " + seed, x.part(0, n, j), w.shiftRight(64 - power).longValueExact());
                    }
                }
            }
        }
        EvenScatter x = new EvenScatter();
        x.lots(1, 8, 0L);
        BigInteger w = BigInteger.ZERO;
        boolean above = false;
        for (int n = 0; n < 256; n++) {
            w = w.multiply(times).add(more).mod(round);
            due("part, power 8", x.part(0, n, 0), w.shiftRight(56).longValueExact());
            above |= w.testBit(63);
        }
        due("some w are below 0 as longs", above ? 1 : 0, 1);
        sentence("LOTS: -4; -6. (As table().)");
        due("directions 0", x.lots(0, 1, 0L), -4);
        due("directions 7", x.lots(7, 1, 0L), -6);
        due("power -1", x.lots(1, -1, 0L), -4);
        due("power 9", x.lots(1, 9, 0L), -6);
        due("directions 6, power 8", x.lots(6, 8, 0L), 1);
        due("directions 1, power 0", x.lots(1, 0, 0L), 2);
    }

    private static void theTray() {
        sentence("THE TRAY has for each DIRECTION 0 .. 5 a LOW, a HIGH, and a MARK: ints, 0 at first");
        EvenScatter x = allAtNothing(4, 6);
        due("LOW and HIGH 0: no point", x.count(0), 0);
        due("MARKS 0: the point 0", x.back(0), 0);
        for (int j = 0; j < 6; j++) {
            due("mark " + j + " at first", x.mark(j, LEAST), 0);
            due("mark " + j, x.mark(j, GREATEST), LEAST);
            due("mark " + j, x.mark(j, -1), GREATEST);
            due("mark " + j + ", below 0: not told apart", x.mark(j, 0), -1);
        }
        due("none of these was refused", x.status(11), 0);
        for (int j = 0; j < 6; j++) {
            due("each HIGH was 0", x.count(0), 0);
            due("side " + j, x.side(j, LEAST, GREATEST), 1);
        }
        due("no side cuts", x.count(0), 4);
        sentence("-1 j not 0 .. 5");
        due("side -1", x.side(-1, 9, 9), -1);
        due("side 6", x.side(6, 9, 9), -1);
        due("mark -1", x.mark(-1, 9), -1);
        due("mark 6", x.mark(6, 9), -1);
        due("no side was set", x.count(0), 4);
        due("no mark was set", x.back(0), 0);
        for (int j = 0; j < 6; j++) {
            x.side(j, 0, 0);
            due("each side cuts", x.count(0), 0);
            x.side(j, 0, 1);
            due("and is opened", x.count(0), 4);
            x.mark(j, 1);
            due("each mark tells", x.back(0), -9);
            x.mark(j, 0);
            due("and is told back", x.back(0), 0);
        }
    }

    private static void boxes() {
        sentence("BOX: points with LOW <= PART < HIGH in each DIRECTION of the SCATTER");
        EvenScatter x = new EvenScatter();
        x.grid(256, 2);
        x.step(0, 0, 1);
        x.step(0, 1, 1);
        int[][] sides = {{0, 256, 256}, {0, 255, 255}, {1, 256, 255}, {255, 256, 1}, {256, 257, 0}, {0, 0, 0},
            {0, 1, 1}, {7, 7, 0}, {8, 7, 0}, {-1, 0, 0}, {-1, 1, 1}, {LEAST, GREATEST, 256}, {GREATEST, LEAST, 0}};
        for (int[] side : sides) {
            x.side(0, side[0], side[1]);
            x.side(1, 0, 256);
            due("LOW " + side[0] + ", HIGH " + side[1], x.count(0), side[2]);
            x.side(0, 0, 256);
            x.side(1, side[0], side[1]);
            due("the other, LOW " + side[0] + ", HIGH " + side[1], x.count(0), side[2]);
        }
        x.side(0, 100, 200);
        x.side(1, 150, 250);
        due("both", x.count(0), 50);
        x.side(2, 0, 0);
        due("a DIRECTION that it has not", x.count(0), 50);
        sentence("The least point whose PARTS are the MARKS; -9 if there is none");
        x.step(0, 1, 2);
        setMarks(x, 255, 254);
        due("the last point", x.back(0), 255);
        setMarks(x, 0, 0);
        due("the first point", x.back(0), 0);
        setMarks(x, 256, 0);
        due("a MARK of COUNT", x.back(0), -9);
        setMarks(x, -1, 254);
        due("a MARK of -1", x.back(0), -9);
        x.step(0, 0, 128);
        setMarks(x, 128, 2, 99);
        due("the least of two, and no other DIRECTION", x.back(0), 1);
        due("no refusal", x.status(11), 0);
        due("no such SCATTER", x.back(1), -1);
        due("no such SCATTER", x.count(-1), -1);
    }

    private static void cornerBoxes() {
        sentence("points with PART < HIGH in each one, open; with PART <= HIGH, closed");
        EvenScatter x = new EvenScatter();
        x.grid(8, 1);
        x.step(0, 0, 1);
        for (int high = 0; high <= 8; high++) {
            x.side(0, 99, high);
            due("open, HIGH " + high, x.gap(0, false, 0), 0);
            due("closed, HIGH " + high, x.gap(0, true, 0), high < 8 ? 1 : 0);
            due("closed, HIGH " + high, x.gap(0, true, 1), high < 8 ? 8 : 1);
        }
        sentence("-3 a HIGH not 0 .. COUNT");
        x.side(0, 0, 9);
        due("HIGH COUNT + 1", x.gap(0, false, 0), -997);
        due("HIGH COUNT + 1, closed", x.gap(0, true, 1), -997);
        x.side(0, 0, -1);
        due("HIGH -1", x.gap(0, false, 0), -997);
        due("HIGH -1, closed", x.gap(0, true, 1), -997);
        x.side(0, 0, 8);
        x.side(1, 0, -1);
        due("a HIGH of a DIRECTION that it has not", x.gap(0, false, 1), 1);
        x.side(0, GREATEST, 0);
        due("a LOW is not looked at", x.gap(0, true, 1), 8);
        EvenScatter y = allAtNothing(256, 6);
        for (int j = 0; j < 6; j++) {
            setHighs(y, 256, 256, 256, 256, 256, 256);
            due("all HIGHS COUNT", y.gap(0, false, 1), 1);
            y.side(j, 0, 257);
            due("HIGH " + j + " above", y.gap(0, false, 1), -997);
            y.side(j, 0, -1);
            due("HIGH " + j + " below", y.gap(0, true, 1), -997);
            y.side(j, 0, 0);
            due("HIGH " + j + " 0, open: no point, no SIZE", y.gap(0, false, 0), 0);
            due("HIGH " + j + " 0, closed: all points, no SIZE", y.gap(0, true, 0), 1);
        }
    }

    private static void gaps() {
        sentence("GAP is how far the share of points is from SIZE, without sign");
        EvenScatter x = allAt(6, 8, 255);
        setHighs(x, 255, 255, 255, 255, 255, 255);
        due("no point in the greatest open box", x.gap(1, false, 0), 274941996890625L);
        due("no point in the greatest open box", x.gap(1, false, 1), 281474976710656L);
        due("all points in the closed one", x.gap(1, true, 0), 281474976710656L - 274941996890625L);
        due("all points in the closed one", x.gap(1, true, 1), 281474976710656L);
        setHighs(x, 0, 0, 0, 0, 0, 0);
        due("neither points nor SIZE", x.gap(1, true, 0), 0);
        due("all points, no SIZE", x.gap(0, true, 0), 1);
        due("all points, no SIZE", x.gap(0, true, 1), 1);
        EvenScatter y = one(1, 0);
        due("COUNT 1, HIGH 0, open", y.gap(0, false, 0), 0);
        due("COUNT 1, HIGH 0, closed", y.gap(0, true, 0), 1);
        y.side(0, 0, 1);
        due("COUNT 1, HIGH 1", y.gap(0, false, 0), 0);
        due("COUNT 1, HIGH 1, closed", y.gap(0, true, 0), 0);
        y.side(0, 0, 2);
        due("COUNT 1, HIGH 2", y.gap(0, false, 0), -997);
    }

    private static void shapes() {
        sentence("SHAPE: MARKS k (0 .. POWER); -3 a MARK");
        EvenScatter x = new EvenScatter();
        x.ladder(8);
        for (int k = 0; k <= 8; k++) {
            x.mark(0, k);
            due("MARK " + k, x.even(0), 1);
            due("why, MARK " + k, x.why(0), -9);
        }
        x.mark(0, 9);
        due("MARK 9", x.even(0), -3);
        x.mark(0, -1);
        due("MARK -1", x.even(0), -3);
        x.ladder(0);
        due("POWER 0, MARK -1", x.even(1), -3);
        x.mark(0, 0);
        due("POWER 0, MARK 0", x.even(1), 1);
        x.mark(0, 1);
        due("POWER 0, MARK 1", x.even(1), -3);
        x.mark(0, 0);
        x.mark(1, -1);
        due("a MARK of a DIRECTION that it has not", x.even(0), 1);
        sentence("-6 the MARKS' sum is above 16");
        EvenScatter y = one(6, 8);
        int[][] sixteen = {{8, 8, 0, 0, 0, 0}, {0, 0, 0, 0, 8, 8}, {3, 3, 3, 3, 2, 2}};
        for (int[] marks : sixteen) {
            setMarks(y, marks);
            due("sum 16", y.even(0), 0);
            due("why, sum 16", y.why(0), 256);
            y.mark(2, marks[2] + 1);
            due("sum 17", y.even(0), -6);
            due("why, sum 17", y.why(0), -9);
        }
        setMarks(y, 8, 8, 8, 8, 8, 8);
        due("sum 48", y.even(0), -6);
        setMarks(y, 8, 8, 8, 8, 8, 9);
        due("sum 49, and a MARK", y.even(0), -3);
        sentence("-2 a GRID");
        y.grid(256, 6);
        due("a GRID, and a MARK", y.even(1), -2);
        due("no such SCATTER, and a MARK", y.even(2), -1);
    }

    private static void uneven() {
        sentence("the first box that has another number of points than the mean: that number");
        EvenScatter x = allAt(2, 8, 255);
        setMarks(x, 0, 1);
        due("all in the last of two, the mean is 128", x.why(1), 0);
        due("all in the first of two", x.why(0), 256);
        setMarks(x, 8, 8);
        due("all in the last of 65536", x.why(1), 0);
        due("all in the first of 65536", x.why(0), 256);
        EvenScatter y = one(1, 1);
        y.mark(0, 1);
        due("both in the first of two, the mean is 1", y.why(0), 2);
        y.row(0, 0, 0, 1);
        due("one in each of two", y.why(0), -9);
        EvenScatter z = new EvenScatter();
        z.ladder(1);
        z.direction(0, 3, 1L);
        setMarks(z, 1, 1);
        due("(0,0) and (1,1): the mean is a half", z.why(0), 1);
        due("and no box has it", z.even(0), 0);
        sentence("by its parts' numbers, DIRECTION 0 first, the lesser first");
        for (int power = 2; power <= 3; power++) {
            boolean past = false;
            for (int seed = 0; seed < 40; seed++) {
                past |= unevenLots(power, seed);
            }
            due("some LOTS have (0,0) even, and (0,1) and (1,0) uneven and unlike", past ? 1 : 0, 1);
        }
        sentence("-9 if it is EVEN, or refused (no REFUSAL is counted)");
        EvenScatter w = allAtNothing(2, 1);
        w.table(1, 1);
        due("a GRID", w.why(0), -9);
        due("no such SCATTER", w.why(2), -9);
        due("EVEN", w.why(1), -9);
        w.mark(0, 2);
        due("a MARK", w.why(1), -9);
        for (int what = 11; what <= 16; what++) {
            due("status(" + what + ")", w.status(what), 0);
        }
    }

    private static boolean unevenLots(int power, int seed) {
        EvenScatter x = new EvenScatter();
        x.lots(2, power, seed);
        int count = 1 << power;
        int half = count / 2;
        int mean = count / 4;
        int[] boxes = new int[4];
        for (int n = 0; n < count; n++) {
            boxes[x.part(0, n, 0) / half * 2 + x.part(0, n, 1) / half]++;
        }
        int first = -9;
        for (int box = 3; box >= 0; box--) {
            first = boxes[box] == mean ? first : boxes[box];
        }
        setMarks(x, 1, 1);
        due("why of LOTS from " + seed, x.why(0), first);
        due("even of LOTS from " + seed, x.even(0), first == -9 ? 1 : 0);
        return boxes[0] == mean && boxes[1] != mean && boxes[2] != mean && boxes[1] != boxes[2];
    }

    private static void gradesOfAll() {
        sentence("GRADE is the least t, 0 .. POWER");
        for (int power = 0; power <= 8; power++) {
            EvenScatter x = one(6, power);
            due("ROWS 0, POWER " + power, x.grade(0), power);
            x.ladder(power);
            due("one DIRECTION, POWER " + power, x.grade(1), 0);
            x.direction(1, 3, 1L);
            due("two DIRECTIONS, POWER " + power, x.grade(1), 0);
            x.direction(1, 3, 1L);
            due("two of these alike, POWER " + power, x.grade(1), power == 0 ? 0 : power - 1);
        }
        EvenScatter y = one(1, 8);
        for (int i = 0; i < 8; i++) {
            due("ROW " + i + " is the first of 0", y.grade(0), 8 - i);
            y.row(0, 0, i, 1 << i);
        }
        due("all ROWS independent", y.grade(0), 0);
        y.row(0, 0, 7, 127);
        due("the last is the others' exclusive or", y.grade(0), 1);
        sentence("GRADE (of TABLE, LADDER, TURNED). -1; -2");
        y.turned(0);
        y.mask(1, 0, 255);
        due("of a TURNED", y.grade(1), 1);
        y.grid(256, 1);
        y.lots(1, 8, 1L);
        due("of a GRID", y.grade(2), -2);
        due("of LOTS", y.grade(3), -2);
        due("of nobody", y.grade(4), -1);
        due("of nobody", y.grade(-1), -1);
    }

    private static void gradesOfTwo() {
        sentence("GRADE of the SCATTER of two of its DIRECTIONS alone. -1 (also of j, k being one)");
        EvenScatter x = one(6, 8);
        for (int i = 0; i < 8; i++) {
            x.row(0, 4, i, 1 << i);
            x.row(0, 5, i, 128 >> i);
        }
        due("pair(4, 5)", x.pair(0, 4, 5), 0);
        due("pair(5, 4)", x.pair(0, 5, 4), 0);
        due("pair(0, 5)", x.pair(0, 0, 5), 8);
        due("pair(0, 1)", x.pair(0, 0, 1), 8);
        due("grade of all", x.grade(0), 8);
        x.ladder(8);
        x.direction(1, 3, 1L);
        due("pair(1, 0) of another", x.pair(1, 1, 0), 0);
        due("grade of another, all its DIRECTIONS", x.grade(1), 0);
        due("pair(5, 6)", x.pair(0, 5, 6), -1);
        due("pair(6, 5)", x.pair(0, 6, 5), -1);
        due("pair(-1, 0)", x.pair(0, -1, 0), -1);
        due("pair(0, -1)", x.pair(0, 0, -1), -1);
        due("pair(0, 0)", x.pair(0, 0, 0), -1);
        due("pair(5, 5)", x.pair(0, 5, 5), -1);
        x.row(0, 5, 0, 1);
        due("the first ROWS alike", x.pair(0, 4, 5), 7);
        x.table(2, 0);
        due("POWER 0", x.pair(2, 0, 1), 0);
        x.grid(4, 2);
        x.lots(2, 2, 1L);
        due("of a GRID", x.pair(3, 0, 1), -2);
        due("of LOTS", x.pair(4, 0, 1), -2);
        due("of a GRID, one and the same", x.pair(3, 0, 0), -1);
        due("of LOTS, no such DIRECTION", x.pair(4, 0, 2), -1);
    }

    private static void worst() {
        sentence("-6 more than 3 DIRECTIONS, COUNT above 64 (of 3: above 16)");
        int[][] asked = {{1, 1}, {64, 1}, {64, 2}, {1, 3}, {16, 3}};
        int[][] refused = {{65, 1}, {256, 1}, {65, 2}, {17, 3}, {64, 3}, {65, 3}, {1, 4}, {16, 4}, {1, 6}, {65, 6}};
        for (int[] grid : asked) {
            EvenScatter x = allAtNothing(grid[0], grid[1]);
            due("all at 0, numerator", x.worst(0, 0), 1);
            due("all at 0, denominator", x.worst(0, 1), 1);
            due("all at 0, closed", x.worst(0, 2), 1);
            due("all at 0, its last HIGH", x.worst(0, 2 + grid[1]), 0);
            due("no HIGH more", x.worst(0, 3 + grid[1]), -998);
            due("what -1", x.worst(0, -1), -998);
        }
        for (int[] grid : refused) {
            EvenScatter x = allAtNothing(grid[0], grid[1]);
            due("what 0", x.worst(0, 0), -994);
            due("the last HIGH", x.worst(0, 2 + grid[1]), -994);
            due("no HIGH more", x.worst(0, 3 + grid[1]), -998);
            due("what -1", x.worst(0, -1), -998);
        }
        sentence("HIGHS that are PARTS of points or, of open ones, COUNT too");
        EvenScatter x = allAt(2, 6, 63);
        due("numerator", x.worst(1, 0), 63);
        due("denominator", x.worst(1, 1), 64);
        due("open", x.worst(1, 2), 0);
        due("HIGH 0", x.worst(1, 3), 63);
        due("HIGH 1 is COUNT", x.worst(1, 4), 64);
        EvenScatter y = allAt(3, 4, 15);
        due("numerator", y.worst(1, 0), 15);
        due("denominator", y.worst(1, 1), 16);
        due("HIGH 0", y.worst(1, 3), 15);
        due("HIGH 1 is COUNT", y.worst(1, 4), 16);
        due("HIGH 2 is COUNT", y.worst(1, 5), 16);
    }

    private static void worstOfSeveral() {
        sentence("Of several the one whose HIGHS are first, by DIRECTIONS, the lesser first");
        EvenScatter x = new EvenScatter();
        x.grid(64, 1);
        x.step(0, 0, 1);
        due("each closed one is 1 / 64: numerator", x.worst(0, 0), 1);
        due("denominator", x.worst(0, 1), 64);
        due("closed", x.worst(0, 2), 1);
        due("the least HIGH", x.worst(0, 3), 0);
        EvenScatter after = allAtNothing(64, 2);
        after.ladder(3);
        after.direction(1, 3, 1L);
        due("1, of all at 0", after.worst(0, 1), 1);
        due("WAVES before", after.waves(1, 2, 0), 9);
        due("a SHAPE before", after.even(1), 1);
        // Points (0,0) (4,4) (2,6) (6,2) (1,5) (5,1) (3,3) (7,7): closed (6,6) is 7 / 8 less 36 / 64.
        due("what a greater one was before is forgotten", after.worst(1, 0), 5);
        due("denominator", after.worst(1, 1), 16);
        due("closed", after.worst(1, 2), 1);
        due("HIGH 0", after.worst(1, 3), 6);
        due("HIGH 1", after.worst(1, 4), 6);
        // Points (0,1) (1,0): closed (0,1), (1,0) and open (1,1) are a half, a half and a quarter,
        // closed (1,1) is 1 less a quarter.
        x.table(2, 1);
        x.row(1, 0, 0, 1);
        x.row(1, 1, 0, 1);
        x.turned(1);
        x.mask(2, 1, 1);
        due("three quarters: numerator", x.worst(2, 0), 3);
        due("denominator", x.worst(2, 1), 4);
        due("HIGH 0", x.worst(2, 3), 1);
        due("HIGH 1", x.worst(2, 4), 1);
        // Points (3,3) four times: open (3,4) and (4,3) are 3 quarters, closed (3,3) is 7 of 16.
        EvenScatter y = allAt(2, 2, 3);
        due("DIRECTION 0's HIGH is the lesser", y.worst(1, 3), 3);
        due("DIRECTION 1's HIGH is the greater", y.worst(1, 4), 4);
        sentence("of like HIGHS the open one");
        EvenScatter z = allAt(1, 1, 1);
        due("open and closed at 1 are a half: numerator", z.worst(1, 0), 1);
        due("denominator", z.worst(1, 1), 2);
        due("the open one", z.worst(1, 2), 0);
        due("HIGH", z.worst(1, 3), 1);
    }

    private static void squares() {
        sentence("SQUARE: -6 more than 3 DIRECTIONS, COUNT above 64");
        int[][] asked = {{1, 1, 1, 3}, {64, 1, 1, 3}, {1, 2, 11, 18}, {64, 2, 11, 18}, {1, 3, 85, 108},
            {64, 3, 85, 108}, {17, 3, 85, 108}};
        int[][] refused = {{65, 1}, {256, 1}, {65, 3}, {1, 4}, {64, 4}, {65, 4}, {256, 6}};
        for (int[] grid : asked) {
            EvenScatter x = allAtNothing(grid[0], grid[1]);
            due("numerator", x.square(0, 0), grid[2]);
            due("denominator", x.square(0, 1), grid[3]);
            due("what 2", x.square(0, 2), -998);
            due("what -1", x.square(0, -1), -998);
        }
        for (int[] grid : refused) {
            EvenScatter x = allAtNothing(grid[0], grid[1]);
            due("what 0", x.square(0, 0), -994);
            due("what 1", x.square(0, 1), -994);
            due("what 2", x.square(0, 2), -998);
            due("what -1", x.square(0, -1), -998);
        }
        sentence("1 / 3 to the d, less .. (1 - x x), and .. (1 - the greater of both x)");
        // x is 63 / 64: 1 / 27 less a quarter of (127 / 4096) to the 3, and 1 / 64 to the 3.
        EvenScatter x = allAt(3, 6, 63);
        due("numerator", x.square(1, 0), 274850912155L);
        due("denominator", x.square(1, 1), 7421703487488L);
    }

    private static void signs() {
        sentence("WAVE of MARKS (0 .. COUNT - 1, bits); -3 a MARK");
        EvenScatter x = allAt(6, 8, 255);
        due("MARKS 0", x.wave(1), 256);
        for (int j = 0; j < 6; j++) {
            x.mark(j, 255);
            due("eight bits more", x.wave(1), 256);
            x.mark(j, 254);
            due("seven bits more", x.wave(1), -256);
            due("of all at 0", x.wave(0), 256);
            x.mark(j, 256);
            due("MARK COUNT", x.wave(1), -997);
            x.mark(j, -1);
            due("MARK -1", x.wave(1), -997);
            x.mark(j, 0);
        }
        EvenScatter y = one(1, 0);
        due("POWER 0, MARK 0", y.wave(0), 1);
        y.mark(1, 9);
        due("a MARK of a DIRECTION that it has not", y.wave(0), 1);
        y.mark(0, 1);
        due("POWER 0, MARK 1", y.wave(0), -997);
        sentence("not of GRID");
        y.grid(256, 1);
        due("a GRID, and a MARK above", y.wave(1), -998);
        due("no such SCATTER", y.wave(2), -999);
    }

    private static void wavesOf() {
        sentence("rows of MARKS (not all 0) with 1 .. w bits in all; -9 if there is none");
        EvenScatter x = one(2, 6);
        due("w 0", x.waves(0, 0, 0), -9);
        due("w 1, the first", x.waves(0, 1, 0), 1);
        due("w 1, the last", x.waves(0, 1, 11), 2048);
        due("w 1, one more", x.waves(0, 1, 12), -9);
        due("w 2, the third", x.waves(0, 2, 2), 3);
        due("w 11, the last", x.waves(0, 11, 4093), 4094);
        due("w 11, one more", x.waves(0, 11, 4094), -9);
        due("w 12, the last", x.waves(0, 12, 4094), 4095);
        due("w 12, one more", x.waves(0, 12, 4095), -9);
        due("w greatest, the last", x.waves(0, GREATEST, 4094), 4095);
        due("i greatest", x.waves(0, GREATEST, GREATEST), -9);
        sentence("-4 w or i below 0");
        due("w -1", x.waves(0, -1, 0), -996);
        due("i -1", x.waves(0, 0, -1), -996);
        sentence("-6 POWER times DIRECTIONS above 12");
        int[][] twelve = {{2, 6}, {3, 4}, {4, 3}, {6, 2}};
        int[][] above = {{2, 7}, {3, 5}, {4, 4}, {5, 3}, {6, 3}, {6, 8}};
        for (int[] size : twelve) {
            EvenScatter y = one(size[0], size[1]);
            due("12 bits", y.waves(0, 12, 4094), 4095);
        }
        for (int[] size : above) {
            EvenScatter y = one(size[0], size[1]);
            due("more bits", y.waves(0, 1, 0), -994);
            due("more bits, w", y.waves(0, -1, 0), -996);
            due("more bits, i", y.waves(0, 1, -1), -996);
        }
        EvenScatter z = one(1, 8);
        due("8 bits of one", z.waves(0, 8, 254), 255);
        due("8 bits of one, one more", z.waves(0, 8, 255), -9);
        z.table(6, 0);
        due("no bit at all", z.waves(1, 12, 0), -9);
        z.grid(2, 1);
        due("a GRID, w and i", z.waves(2, -1, -1), -998);
        due("no such SCATTER, w and i", z.waves(3, -1, -1), -999);
        sentence("whose WAVE is not 0");
        z.turned(0);
        z.mask(3, 0, 255);
        due("below 0 is not 0", z.waves(3, 1, 7), 128);
        z.ladder(8);
        due("0", z.waves(4, 8, 0), -9);
    }

    private static void sums() {
        sentence("0 to the 0 is 1");
        EvenScatter x = allAtNothing(256, 6);
        due("MARKS 0, PARTS 0", x.sum(0, 0), 256);
        x.mark(5, 1);
        due("one MARK 1, PARTS 0", x.sum(0, 0), 0);
        sentence("-3 a MARK below 0, or their sum above 5");
        EvenScatter y = allAt(6, 8, 255);
        setMarks(y, 1, 1, 1, 1, 1, 0);
        due("sum 5 of five", y.sum(1, 0), 276020200800000L);
        due("the mean of 255 / 256 to the 5, less 1 / 32: numerator", y.sum(1, 1), 1043844171007L);
        due("denominator", y.sum(1, 2), 1099511627776L);
        setMarks(y, 1, 1, 1, 1, 1, 1);
        due("sum 6 of six", y.sum(1, 0), -997);
        setMarks(y, 5, 0, 0, 0, 0, 0);
        due("sum 5 of one", y.sum(1, 0), 276020200800000L);
        setMarks(y, 0, 0, 0, 0, 0, 5);
        due("sum 5 of the last", y.sum(1, 0), 276020200800000L);
        setMarks(y, 0, 0, 0, 0, 0, 6);
        due("sum 6 of the last", y.sum(1, 0), -997);
        setMarks(y, 0, 0, 0, 0, 6, -1);
        due("sum 5, a MARK below 0", y.sum(1, 0), -997);
        setMarks(y, -1, 0, 0, 0, 0, 0);
        due("sum -1", y.sum(1, 1), -997);
        setMarks(y, GREATEST, GREATEST, 2, 0, 0, 0);
        due("a sum that would go round to 0", y.sum(1, 2), -997);
        EvenScatter z = one(1, 0);
        setMarks(z, 5, 1, -1);
        due("MARKS of DIRECTIONS that it has not", z.sum(0, 0), 0);
        due("0 less 1 / 6", z.sum(0, 1), -1);
        due("0 less 1 / 6", z.sum(0, 2), 6);
        sentence("the sum over all points (what 0) .. numerator (1), denominator (2); -2 what");
        due("what -1", z.sum(0, -1), -998);
        due("what 3", z.sum(0, 3), -998);
        z.mark(0, 6);
        due("what 3, and a MARK", z.sum(0, 3), -998);
        due("no such SCATTER, what 3, and a MARK", z.sum(1, 3), -999);
    }

    private static void fractions() {
        sentence("without common factor, the denominator above 0");
        EvenScatter x = one(1, 8);
        x.side(0, 0, 0);
        due("gap 0 / 256", x.gap(0, false, 0), 0);
        due("is 0 / 1", x.gap(0, false, 1), 1);
        x.side(0, 0, 128);
        due("gap 128 / 256", x.gap(0, false, 0), 1);
        due("is 1 / 2", x.gap(0, false, 1), 2);
        x.side(0, 0, 255);
        due("gap 1 / 256", x.gap(0, false, 0), 1);
        due("is 1 / 256", x.gap(0, false, 1), 256);
        x.mark(0, 1);
        due("sum, 0 less a half", x.sum(0, 1), -1);
        due("the denominator above 0", x.sum(0, 2), 2);
        x.mark(0, 0);
        due("sum, 1 less 1", x.sum(0, 1), 0);
        due("is 0 / 1", x.sum(0, 2), 1);
        x.side(0, 0, 254);
        due("gap 2 / 256", x.gap(0, false, 0), 1);
        due("is 1 / 128", x.gap(0, false, 1), 128);
        x.grid(6, 1);
        x.step(1, 0, 3);
        // PARTS 0 3 0 3 0 3: closed at 0 is 3 / 6.
        due("worst 3 / 6", x.worst(1, 0), 1);
        due("is 1 / 2", x.worst(1, 1), 2);
    }

    private static void refusalsAsLongs() {
        sentence("Answers that are longs tell refusals as -1000 less it");
        EvenScatter x = one(2, 7);
        due("-1", x.square(1, 0), -999);
        due("-2", x.square(0, 2), -998);
        x.mark(0, -1);
        due("-3", x.wave(0), -997);
        due("-4", x.waves(0, -1, 0), -996);
        due("-6", x.waves(0, 0, 0), -994);
        for (int what = 11; what <= 16; what++) {
            due("status(" + what + ")", x.status(what), what == 15 ? 0 : 1);
        }
    }

    private static void turnsAndSkips() {
        sentence("TURN, exclusive or the half of TURN (cut), TURN modulo COUNT");
        EvenScatter x = one(1, 8);
        x.lots(1, 8, 1L);
        x.ladder(0);
        x.grid(7, 1);
        x.grid(256, 1);
        x.grid(1, 1);
        x.turned(0);
        int[][] turns = {{0, 0}, {1, 1}, {2, 3}, {3, 2}, {254, 129}, {255, 128}, {256, 0}, {257, 1}, {999999, 32}};
        for (int[] turn : turns) {
            for (int s : new int[] {0, 1, 6}) {
                x.skip(s, turn[0]);
                due("next of " + s + ", TURN " + turn[0], x.next(s), turn[1]);
                due("TURN is 1 more", x.scatter(s, 4), turn[0] + 1);
            }
            x.skip(2, turn[0]);
            due("next of COUNT 1, TURN " + turn[0], x.next(2), 0);
        }
        sentence("of a GRID: TURN itself modulo COUNT");
        for (int turn : new int[] {0, 1, 2, 3, 6, 7, 8, 255, 256, 257, 999999}) {
            for (int s : new int[] {3, 4, 5}) {
                x.skip(s, turn);
                due("next of GRID " + s + ", TURN " + turn, x.next(s), turn % x.scatter(s, 2));
            }
        }
        sentence("-6 TURN is 1000000");
        for (int s = 0; s < 7; s++) {
            x.skip(s, 999999);
            int told = x.status(1);
            due("next, TURN 999999", x.next(s) >= 0 ? 1 : 0, 1);
            due("TURN", x.scatter(s, 4), 1000000);
            due("next, TURN 1000000", x.next(s), -6);
            due("TURN", x.scatter(s, 4), 1000000);
            due("one point was told", x.status(1), told + 1);
        }
        sentence("skip: -4 below 0; -6 above 1000000");
        due("skip 0", x.skip(0, 0), 1000000);
        due("skip 1000000", x.skip(0, 1000000), 0);
        due("skip 1000001", x.skip(0, 1000001), -6);
        due("skip -1", x.skip(0, -1), -4);
        due("skip, what it was", x.skip(0, 0), 1000000);
        due("next goes on", x.next(0), 0);
        due("no such SCATTER, below 0", x.skip(7, -1), -1);
        due("no such SCATTER, above", x.skip(-1, 1000001), -1);
    }

    private static void whats() {
        sentence("0 KIND .. 4 its TURN; POWER -1 of a GRID. -1; -2");
        EvenScatter x = allAtNothing(256, 6);
        int[] due = {3, 6, 256, -1, 0};
        for (int what = 0; what < 5; what++) {
            due("what " + what, x.scatter(0, what), due[what]);
        }
        due("POWER -1 is no refusal", x.status(11), 0);
        due("what -1", x.scatter(0, -1), -2);
        due("what 5", x.scatter(0, 5), -2);
        due("no such SCATTER, what 5", x.scatter(1, 5), -1);
        due("no such SCATTER, what -1", x.scatter(-1, -1), -1);
        sentence("gap: numerator (what 0), denominator (1). -2 what");
        due("what -1", x.gap(0, false, -1), -998);
        due("what 0", x.gap(0, false, 0), 0);
        due("what 1", x.gap(0, false, 1), 1);
        due("what 2", x.gap(0, false, 2), -998);
        x.side(0, 0, -1);
        due("what 2, and a HIGH", x.gap(0, true, 2), -998);
        due("no such SCATTER, what 2, and a HIGH", x.gap(1, true, 2), -999);
    }

    private static void statuses() {
        sentence("0 SCATTERS, 1 points that next() told, 11 .. 16 REFUSALS -1 .. -6. -9 for another what");
        EvenScatter x = allAtNothing(1, 1);
        for (int what : new int[] {LEAST, -1, 2, 10, 17, GREATEST}) {
            due("status(" + what + ")", x.status(what), -9);
        }
        for (int times = 1; times <= 3; times++) {
            x.part(0, 1, 0);
            x.scatter(0, 5);
            x.step(0, 0, 1);
            x.skip(0, -1);
            x.skip(0, 1000001);
            x.next(0);
            for (int what = 11; what <= 16; what++) {
                due("status(" + what + ")", x.status(what), what == 15 ? 0 : times);
            }
            due("status(1)", x.status(1), times);
            due("status(0)", x.status(0), 1);
        }
    }
}
