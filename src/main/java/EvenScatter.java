import java.util.Arrays;

/** Points strewn evenly, and exact measures of how even they are. */
public final class EvenScatter {
    private static final int TABLE = 0;
    private static final int LADDER = 1;
    private static final int TURNED = 2;
    private static final int GRID = 3;
    private static final int LOTS = 4;

    private static final int FINE = 0;
    private static final int NOBODY = -1;
    private static final int OTHER = -2;
    private static final int BEYOND = -3;
    private static final int BELOW = -4;
    private static final int ROOM = -6;
    private static final int NONE = -9;

    private static final int MOST_SCATTERS = 12;
    private static final int MOST_DIRECTIONS = 6;
    private static final int MOST_POWER = 8;
    private static final int MOST_COUNT = 256;
    private static final int MOST_TURN = 1000000;
    private static final int MOST_SHAPE = 16;
    private static final int MOST_WAVE_BITS = 12;
    private static final int MOST_EXPONENT = 5;
    private static final int MOST_DEGREE = 6;
    private static final int LEAST_POLYNOMIAL = 3;
    private static final int MOST_POLYNOMIAL = 127;
    private static final int MEASURED_DIRECTIONS = 3;
    private static final int MEASURED_COUNT = 64;
    private static final int WORST_COUNT_OF_THREE = 16;

    // The most that a call counts in: 17 * 17 * 17 corners (65 * 65 of two DIRECTIONS and the
    // 4096 rows of MARKS are fewer).
    private static final int MOST_CELLS = 17 * 17 * 17;

    private final Scatter[] scatters = new Scatter[MOST_SCATTERS];
    private final Tray tray = new Tray();
    private final Ranks ranks = new Ranks();
    private final int[] cells = new int[MOST_CELLS];
    private final Corners corners = new Corners();
    private final int[] refusals = new int[7];
    private int made;
    private int told;

    public EvenScatter() {
        made = 0;
        told = 0;
    }

    public int table(int directions, int power) {
        int fault = sizeFault(directions, power);
        if (fault != FINE) {
            return refuse(fault);
        }
        return keep(new Scatter(TABLE, directions, power, 1 << power));
    }

    public int row(int s, int j, int i, int bits) {
        Scatter scatter = find(s);
        if (scatter == null || !scatter.hasDirection(j)) {
            return refuse(NOBODY);
        }
        if (scatter.kind != TABLE) {
            return refuse(OTHER);
        }
        if (i < 0 || i >= scatter.power || bits < 0 || bits >= scatter.count) {
            return refuse(BEYOND);
        }
        int before = scatter.rowAt(j, i);
        scatter.setRow(j, i, bits);
        scatter.fillFromRows(j);
        return before;
    }

    public int ladder(int power) {
        int fault = sizeFault(1, power);
        if (fault != FINE) {
            return refuse(fault);
        }
        Scatter scatter = new Scatter(LADDER, 1, power, 1 << power);
        for (int i = 0; i < power; i++) {
            scatter.setRow(0, i, 1 << i);
        }
        scatter.fillFromRows(0);
        return keep(scatter);
    }

    public int direction(int s, int p, long firsts) {
        Scatter scatter = find(s);
        if (scatter == null) {
            return refuse(NOBODY);
        }
        if (scatter.kind != LADDER) {
            return refuse(OTHER);
        }
        if (p < LEAST_POLYNOMIAL) {
            return refuse(BELOW);
        }
        if (p > MOST_POLYNOMIAL || scatter.directions >= MOST_DIRECTIONS) {
            return refuse(ROOM);
        }
        if (p % 2 == 0 || !firstsMayBe(degree(p), firsts)) {
            return refuse(BEYOND);
        }
        scatter.addRung(p, degree(p), firsts);
        return scatter.directions - 1;
    }

    public int turned(int s) {
        Scatter scatter = find(s);
        if (scatter == null) {
            return refuse(NOBODY);
        }
        if (!scatter.hasRows()) {
            return refuse(OTHER);
        }
        if (made >= MOST_SCATTERS) {
            return refuse(ROOM);
        }
        Scatter copy = new Scatter(TURNED, scatter.directions, scatter.power, scatter.count);
        copy.takeRowsAndMasks(scatter);
        return keep(copy);
    }

    public int mask(int s, int j, int bits) {
        Scatter scatter = find(s);
        if (scatter == null || !scatter.hasDirection(j)) {
            return refuse(NOBODY);
        }
        if (scatter.kind != TURNED) {
            return refuse(OTHER);
        }
        if (bits < 0 || bits >= scatter.count) {
            return refuse(BEYOND);
        }
        int before = scatter.masks[j];
        scatter.masks[j] = bits;
        scatter.fillFromRows(j);
        return before;
    }

    public int grid(int count, int directions) {
        if (count < 1 || directions < 1) {
            return refuse(BELOW);
        }
        if (count > MOST_COUNT || directions > MOST_DIRECTIONS || made >= MOST_SCATTERS) {
            return refuse(ROOM);
        }
        return keep(new Scatter(GRID, directions, -1, count));
    }

    public int step(int s, int j, int g) {
        Scatter scatter = find(s);
        if (scatter == null || !scatter.hasDirection(j)) {
            return refuse(NOBODY);
        }
        if (scatter.kind != GRID) {
            return refuse(OTHER);
        }
        if (g < 0 || g >= scatter.count) {
            return refuse(BEYOND);
        }
        int before = scatter.steps[j];
        scatter.steps[j] = g;
        scatter.fillFromStep(j);
        return before;
    }

    public int lots(int directions, int power, long seed) {
        int fault = sizeFault(directions, power);
        if (fault != FINE) {
            return refuse(fault);
        }
        Scatter scatter = new Scatter(LOTS, directions, power, 1 << power);
        scatter.fillFromSeed(seed);
        return keep(scatter);
    }

    public int scatter(int s, int what) {
        Scatter scatter = find(s);
        if (scatter == null) {
            return refuse(NOBODY);
        }
        switch (what) {
            case 0:
                return scatter.kind;
            case 1:
                return scatter.directions;
            case 2:
                return scatter.count;
            case 3:
                return scatter.power;
            case 4:
                return scatter.turn;
            default:
                return refuse(OTHER);
        }
    }

    public int part(int s, int n, int j) {
        Scatter scatter = find(s);
        if (scatter == null || n < 0 || n >= scatter.count || !scatter.hasDirection(j)) {
            return refuse(NOBODY);
        }
        return scatter.partAt(n, j);
    }

    public int next(int s) {
        Scatter scatter = find(s);
        if (scatter == null) {
            return refuse(NOBODY);
        }
        if (scatter.turn >= MOST_TURN) {
            return refuse(ROOM);
        }
        int point = scatter.pointOfTurn();
        scatter.turn++;
        told++;
        return point;
    }

    public int skip(int s, int turn) {
        Scatter scatter = find(s);
        if (scatter == null) {
            return refuse(NOBODY);
        }
        if (turn < 0) {
            return refuse(BELOW);
        }
        if (turn > MOST_TURN) {
            return refuse(ROOM);
        }
        int before = scatter.turn;
        scatter.turn = turn;
        return before;
    }

    public int side(int j, int low, int high) {
        if (j < 0 || j >= MOST_DIRECTIONS) {
            return refuse(NOBODY);
        }
        tray.lows[j] = low;
        tray.highs[j] = high;
        return 1;
    }

    public int mark(int j, int v) {
        if (j < 0 || j >= MOST_DIRECTIONS) {
            return refuse(NOBODY);
        }
        int before = tray.marks[j];
        tray.marks[j] = v;
        return before;
    }

    public int count(int s) {
        Scatter scatter = find(s);
        if (scatter == null) {
            return refuse(NOBODY);
        }
        int inside = 0;
        for (int n = 0; n < scatter.count; n++) {
            if (tray.boxHas(scatter, n)) {
                inside++;
            }
        }
        return inside;
    }

    public int back(int s) {
        Scatter scatter = find(s);
        if (scatter == null) {
            return refuse(NOBODY);
        }
        for (int n = 0; n < scatter.count; n++) {
            if (tray.marksAreParts(scatter, n)) {
                return n;
            }
        }
        return NONE;
    }

    public int even(int s) {
        Scatter scatter = find(s);
        int fault = shapeFault(scatter);
        if (scatter == null || fault != FINE) {
            return refuse(fault);
        }
        return firstUneven(scatter) == NONE ? 1 : 0;
    }

    public int why(int s) {
        Scatter scatter = find(s);
        if (scatter == null || shapeFault(scatter) != FINE) {
            return NONE;
        }
        return firstUneven(scatter);
    }

    public int grade(int s) {
        Scatter scatter = find(s);
        if (scatter == null) {
            return refuse(NOBODY);
        }
        if (!scatter.hasRows()) {
            return refuse(OTHER);
        }
        return ranks.gradeOfAll(scatter);
    }

    public int pair(int s, int j, int k) {
        Scatter scatter = find(s);
        if (scatter == null || !scatter.hasDirection(j) || !scatter.hasDirection(k) || j == k) {
            return refuse(NOBODY);
        }
        if (!scatter.hasRows()) {
            return refuse(OTHER);
        }
        return ranks.gradeOfTwo(scatter, j, k);
    }

    public long gap(int s, boolean closed, int what) {
        Scatter scatter = find(s);
        if (scatter == null) {
            return refuseLong(NOBODY);
        }
        if (what < 0 || what > 1) {
            return refuseLong(OTHER);
        }
        if (!tray.highsMayBe(scatter)) {
            return refuseLong(BEYOND);
        }
        long size = 1;
        for (int j = 0; j < scatter.directions; j++) {
            size *= tray.highs[j];
        }
        long inside = 0;
        for (int n = 0; n < scatter.count; n++) {
            if (tray.cornerHas(scatter, n, closed)) {
                inside++;
            }
        }
        long share = inside * powerOf(scatter.count, scatter.directions - 1);
        long whole = powerOf(scatter.count, scatter.directions);
        return fraction(Math.abs(share - size), whole, what == 1);
    }

    public long worst(int s, int what) {
        Scatter scatter = find(s);
        if (scatter == null) {
            return refuseLong(NOBODY);
        }
        if (what < 0 || what >= 3 + scatter.directions) {
            return refuseLong(OTHER);
        }
        if (!mayBeMeasured(scatter)
                || scatter.directions == 3 && scatter.count > WORST_COUNT_OF_THREE) {
            return refuseLong(ROOM);
        }
        corners.search(scatter, cells);
        if (what < 2) {
            long whole = powerOf(scatter.count, scatter.directions);
            return fraction(corners.best, whole, what == 1);
        }
        if (what == 2) {
            return corners.bestIsClosed ? 1 : 0;
        }
        return corners.bestHighs[what - 3];
    }

    public long square(int s, int what) {
        Scatter scatter = find(s);
        if (scatter == null) {
            return refuseLong(NOBODY);
        }
        if (what < 0 || what > 1) {
            return refuseLong(OTHER);
        }
        if (!mayBeMeasured(scatter)) {
            return refuseLong(ROOM);
        }
        int d = scatter.directions;
        long whole = powerOf(scatter.count, 2 * d + 1);
        long threes = powerOf(3, d);
        long twos = powerOf(2, d - 1);
        long pairs = pairSum(scatter) * powerOf(scatter.count, d - 1);
        long top = twos * whole - threes * pointSum(scatter) + threes * twos * pairs;
        return fraction(top, threes * twos * whole, what == 1);
    }

    public long wave(int s) {
        Scatter scatter = find(s);
        if (scatter == null) {
            return refuseLong(NOBODY);
        }
        if (scatter.kind == GRID) {
            return refuseLong(OTHER);
        }
        if (!tray.marksMayBe(scatter, scatter.count - 1)) {
            return refuseLong(BEYOND);
        }
        long wave = 0;
        for (int n = 0; n < scatter.count; n++) {
            wave += tray.signOf(scatter, n);
        }
        return wave;
    }

    public long waves(int s, int w, int i) {
        Scatter scatter = find(s);
        if (scatter == null) {
            return refuseLong(NOBODY);
        }
        if (scatter.kind == GRID) {
            return refuseLong(OTHER);
        }
        if (w < 0 || i < 0) {
            return refuseLong(BELOW);
        }
        int bits = scatter.power * scatter.directions;
        if (bits > MOST_WAVE_BITS) {
            return refuseLong(ROOM);
        }
        fillWaves(scatter, bits);
        int rows = 1 << bits;
        int left = i;
        for (int v = 1; v < rows; v++) {
            if (cells[v] != 0 && Integer.bitCount(v) <= w) {
                if (left == 0) {
                    return v;
                }
                left--;
            }
        }
        return NONE;
    }

    public long sum(int s, int what) {
        Scatter scatter = find(s);
        if (scatter == null) {
            return refuseLong(NOBODY);
        }
        if (what < 0 || what > 2) {
            return refuseLong(OTHER);
        }
        if (!tray.marksMayBe(scatter, MOST_EXPONENT) || tray.markSum(scatter) > MOST_EXPONENT) {
            return refuseLong(BEYOND);
        }
        long sum = 0;
        for (int n = 0; n < scatter.count; n++) {
            sum += tray.productOfPowers(scatter, n);
        }
        if (what == 0) {
            return sum;
        }
        long expected = 1;
        for (int j = 0; j < scatter.directions; j++) {
            expected *= tray.marks[j] + 1;
        }
        long whole = powerOf(scatter.count, tray.markSum(scatter) + 1);
        return fraction(sum * expected - whole, whole * expected, what == 2);
    }

    public int status(int what) {
        if (what == 0) {
            return made;
        }
        if (what == 1) {
            return told;
        }
        if (what >= 11 && what <= 16) {
            return refusals[what - 10];
        }
        return NONE;
    }

    private Scatter find(int s) {
        return s >= 0 && s < made ? scatters[s] : null;
    }

    /** The callers have refused when there was no room. */
    private int keep(Scatter scatter) {
        int number = made;
        if (number < MOST_SCATTERS) {
            scatters[number] = scatter;
            made++;
        }
        return number;
    }

    private int refuse(int refusal) {
        int place = -refusal;
        if (place >= 0 && place < refusals.length) {
            refusals[place]++;
        }
        return refusal;
    }

    private long refuseLong(int refusal) {
        return -1000L - refuse(refusal);
    }

    private int sizeFault(int directions, int power) {
        if (directions < 1 || power < 0) {
            return BELOW;
        }
        if (directions > MOST_DIRECTIONS || power > MOST_POWER || made >= MOST_SCATTERS) {
            return ROOM;
        }
        return FINE;
    }

    private int shapeFault(Scatter scatter) {
        if (scatter == null) {
            return NOBODY;
        }
        if (scatter.kind == GRID) {
            return OTHER;
        }
        if (!tray.marksMayBe(scatter, scatter.power)) {
            return BEYOND;
        }
        return tray.markSum(scatter) > MOST_SHAPE ? ROOM : FINE;
    }

    /** How many points the first box has that has not the mean number; NONE if the shape is even. */
    private int firstUneven(Scatter scatter) {
        int cuts = tray.markSum(scatter);
        // With more boxes than points the mean is no whole number, so the first box tells it all.
        int boxes = cuts <= scatter.power ? 1 << cuts : 1;
        Arrays.fill(cells, 0, boxes, 0);
        for (int n = 0; n < scatter.count; n++) {
            int box = tray.boxOf(scatter, n);
            if (box >= 0 && box < boxes) {
                cells[box]++;
            }
        }
        for (int box = 0; box < boxes; box++) {
            if ((cells[box] << cuts) != scatter.count) {
                return cells[box];
            }
        }
        return NONE;
    }

    /** Whether the scatter is small enough for the sums over corners and pairs to be asked. */
    private static boolean mayBeMeasured(Scatter scatter) {
        return scatter.directions <= MEASURED_DIRECTIONS && scatter.count <= MEASURED_COUNT;
    }

    /** The sum over points of the product of (1 - x x), times COUNT to (2 d). */
    private static long pointSum(Scatter scatter) {
        long sum = 0;
        long whole = (long) scatter.count * scatter.count;
        for (int n = 0; n < scatter.count; n++) {
            long product = 1;
            for (int j = 0; j < scatter.directions; j++) {
                long part = scatter.partAt(n, j);
                product *= whole - part * part;
            }
            sum += product;
        }
        return sum;
    }

    /** The sum over pairs of points of the product of (1 - the greater x), times COUNT to d. */
    private static long pairSum(Scatter scatter) {
        long sum = 0;
        for (int n = 0; n < scatter.count; n++) {
            for (int m = 0; m < scatter.count; m++) {
                long product = 1;
                for (int j = 0; j < scatter.directions; j++) {
                    product *= scatter.count - Math.max(scatter.partAt(n, j), scatter.partAt(m, j));
                }
                sum += product;
            }
        }
        return sum;
    }

    /** The WAVE of each row of marks v in cells[v], by the fast Walsh transform. */
    private void fillWaves(Scatter scatter, int bits) {
        int rows = 1 << bits;
        Arrays.fill(cells, 0, rows, 0);
        for (int n = 0; n < scatter.count; n++) {
            int place = 0;
            for (int j = 0; j < scatter.directions; j++) {
                place = place * scatter.count + scatter.partAt(n, j);
            }
            cells[place]++;
        }
        for (int k = 0; k < bits; k++) {
            int bit = 1 << k;
            for (int v = 0; v < rows; v++) {
                if ((v & bit) == 0) {
                    int without = cells[v];
                    int with = cells[v + bit];
                    cells[v] = without + with;
                    cells[v + bit] = without - with;
                }
            }
        }
    }

    private static int degree(int p) {
        int q = 0;
        for (int bit = 1; bit <= MOST_DEGREE; bit++) {
            if (((p >> bit) & 1) == 1) {
                q = bit;
            }
        }
        return q;
    }

    private static int firstOf(long firsts, int k) {
        return (int) ((firsts >>> (8 * (k - 1))) & 255L);
    }

    private static boolean firstsMayBe(int q, long firsts) {
        for (int k = 1; k <= q; k++) {
            int v = firstOf(firsts, k);
            if (v % 2 == 0 || v >= 1 << k) {
                return false;
            }
        }
        return true;
    }

    private static long powerOf(long base, int exponent) {
        long power = 1;
        for (int i = 0; i < exponent; i++) {
            power *= base;
        }
        return power;
    }

    /** Numerator or denominator of top / bottom (bottom above 0), without common factor. */
    private static long fraction(long top, long bottom, boolean denominator) {
        long factor = commonFactor(Math.abs(top), bottom);
        long asked = denominator ? bottom : top;
        return factor > 1 ? asked / factor : asked;
    }

    private static long commonFactor(long one, long other) {
        long a = one;
        long b = other;
        // Euclid needs fewer than 100 turns for any two longs.
        for (int turn = 0; turn < 200 && b != 0; turn++) {
            long rest = a % b;
            a = b;
            b = rest;
        }
        return a;
    }

    /** The LOWS, HIGHS and MARKS, and what they say of a point. */
    private static final class Tray {
        final int[] lows = new int[MOST_DIRECTIONS];
        final int[] highs = new int[MOST_DIRECTIONS];
        final int[] marks = new int[MOST_DIRECTIONS];

        boolean boxHas(Scatter scatter, int n) {
            for (int j = 0; j < scatter.directions; j++) {
                int part = scatter.partAt(n, j);
                if (part < lows[j] || part >= highs[j]) {
                    return false;
                }
            }
            return true;
        }

        boolean cornerHas(Scatter scatter, int n, boolean closed) {
            for (int j = 0; j < scatter.directions; j++) {
                int part = scatter.partAt(n, j);
                if (part > highs[j] || part == highs[j] && !closed) {
                    return false;
                }
            }
            return true;
        }

        boolean marksAreParts(Scatter scatter, int n) {
            for (int j = 0; j < scatter.directions; j++) {
                if (scatter.partAt(n, j) != marks[j]) {
                    return false;
                }
            }
            return true;
        }

        boolean highsMayBe(Scatter scatter) {
            for (int j = 0; j < scatter.directions; j++) {
                if (highs[j] < 0 || highs[j] > scatter.count) {
                    return false;
                }
            }
            return true;
        }

        boolean marksMayBe(Scatter scatter, int greatest) {
            for (int j = 0; j < scatter.directions; j++) {
                if (marks[j] < 0 || marks[j] > greatest) {
                    return false;
                }
            }
            return true;
        }

        /** Asked only of marks that may be, so it can't go round. */
        int markSum(Scatter scatter) {
            int sum = 0;
            for (int j = 0; j < scatter.directions; j++) {
                sum += marks[j];
            }
            return sum;
        }

        /** The number of the point's box of the SHAPE, DIRECTION 0 weighing most. */
        int boxOf(Scatter scatter, int n) {
            int box = 0;
            for (int j = 0; j < scatter.directions; j++) {
                int within = scatter.partAt(n, j) >> (scatter.power - marks[j]);
                box = (box << marks[j]) + within;
            }
            return box;
        }

        int signOf(Scatter scatter, int n) {
            int bits = 0;
            for (int j = 0; j < scatter.directions; j++) {
                bits += Integer.bitCount(scatter.partAt(n, j) & marks[j]);
            }
            return bits % 2 == 0 ? 1 : -1;
        }

        long productOfPowers(Scatter scatter, int n) {
            long product = 1;
            for (int j = 0; j < scatter.directions; j++) {
                product *= powerOf(scatter.partAt(n, j), marks[j]);
            }
            return product;
        }
    }

    /** One SCATTER; its PARTS are kept, and made anew when what they come from changes. */
    private static final class Scatter {
        private static final long FACTOR = 6364136223846793005L;
        private static final long ADDEND = 1442695040888963407L;

        final int kind;
        final int power;
        final int count;
        int directions;
        int turn;
        final int[] rows = new int[MOST_DIRECTIONS * MOST_POWER];
        final int[] masks = new int[MOST_DIRECTIONS];
        final int[] steps = new int[MOST_DIRECTIONS];
        final int[] parts;

        Scatter(int kind, int directions, int power, int count) {
            this.kind = kind;
            this.directions = directions;
            this.power = power;
            this.count = Math.max(1, Math.min(count, MOST_COUNT));
            this.turn = 0;
            this.parts = new int[MOST_DIRECTIONS * this.count];
        }

        boolean hasDirection(int j) {
            return j >= 0 && j < directions;
        }

        boolean hasRows() {
            return kind == TABLE || kind == LADDER || kind == TURNED;
        }

        int partAt(int n, int j) {
            return parts[j * count + n];
        }

        int rowAt(int j, int i) {
            return rows[j * MOST_POWER + i];
        }

        void setRow(int j, int i, int bits) {
            rows[j * MOST_POWER + i] = bits;
        }

        /** The Gray code takes each point once in COUNT turns; a GRID of any COUNT can't use it. */
        int pointOfTurn() {
            int place = turn % count;
            return kind == GRID ? place : place ^ (place >> 1);
        }

        void takeRowsAndMasks(Scatter from) {
            System.arraycopy(from.rows, 0, rows, 0, rows.length);
            System.arraycopy(from.masks, 0, masks, 0, masks.length);
            for (int j = 0; j < directions; j++) {
                fillFromRows(j);
            }
        }

        /** FIGURES are linear in the bits of a point: each bit adds one column of the ROWS. */
        void fillFromRows(int j) {
            int start = j * count;
            parts[start] = masks[j];
            for (int k = 0; k < power; k++) {
                int column = columnAt(j, k);
                int half = 1 << k;
                for (int n = 0; n < half; n++) {
                    parts[start + half + n] = parts[start + n] ^ column;
                }
            }
        }

        private int columnAt(int j, int k) {
            int column = 0;
            for (int i = 0; i < power; i++) {
                column = 2 * column + ((rowAt(j, i) >> k) & 1);
            }
            return column;
        }

        void fillFromStep(int j) {
            for (int n = 0; n < count; n++) {
                parts[j * count + n] = n * steps[j] % count;
            }
        }

        void fillFromSeed(long seed) {
            long w = seed;
            for (int n = 0; n < count; n++) {
                for (int j = 0; j < directions; j++) {
                    w = w * FACTOR + ADDEND;
                    // Two shifts, since one by 64 (POWER 0) would shift by nothing.
                    parts[j * count + n] = (int) ((w >>> 1) >>> (63 - power));
                }
            }
        }

        /** A DIRECTION more of a LADDER; the caller has looked at the numbers and the room. */
        void addRung(int p, int q, long firsts) {
            int j = directions;
            int[] v = rungNumbers(p, q, firsts);
            for (int i = 0; i < power; i++) {
                int bits = 0;
                for (int k = i + 1; k <= power; k++) {
                    bits |= ((v[k] >> (k - 1 - i)) & 1) << (k - 1);
                }
                setRow(j, i, bits);
            }
            directions++;
            fillFromRows(j);
        }

        private static int[] rungNumbers(int p, int q, long firsts) {
            int[] v = new int[MOST_POWER + 1];
            for (int k = 1; k <= MOST_POWER; k++) {
                if (k <= q) {
                    v[k] = firstOf(firsts, k);
                } else {
                    int far = v[k - q];
                    int number = far ^ (far << q);
                    for (int i = 1; i < q; i++) {
                        number ^= ((p >> (q - i)) & 1) * (v[k - i] << i);
                    }
                    v[k] = number;
                }
            }
            return v;
        }
    }

    /**
     * The GRADE by ranks: the boxes of a SHAPE have equally many points just if the first ROWS
     * that its MARKS take of each DIRECTION are independent.
     */
    private static final class Ranks {
        private final int[] chosen = new int[MOST_DIRECTIONS];
        private final int[] kept = new int[MOST_POWER];
        private int choices;
        private int size;
        private int leastDependent;

        int gradeOfAll(Scatter scatter) {
            choices = scatter.directions;
            for (int j = 0; j < choices; j++) {
                chosen[j] = j;
            }
            return gradeOfChosen(scatter);
        }

        int gradeOfTwo(Scatter scatter, int j, int k) {
            choices = 2;
            chosen[0] = j;
            chosen[1] = k;
            return gradeOfChosen(scatter);
        }

        private int gradeOfChosen(Scatter scatter) {
            size = 0;
            leastDependent = scatter.power + 1;
            walk(scatter, 0);
            return scatter.power + 1 - leastDependent;
        }

        /** Tries all MARKS from the depth's DIRECTION on; the rows kept so far are independent. */
        private void walk(Scatter scatter, int depth) {
            if (depth >= choices || depth >= MOST_DIRECTIONS) {
                return;
            }
            int before = size;
            for (int i = 0; i <= scatter.power; i++) {
                walk(scatter, depth + 1);
                if (i == scatter.power || size + 1 >= leastDependent) {
                    break;
                }
                if (!keepIfIndependent(scatter.rowAt(chosen[depth], i))) {
                    leastDependent = size + 1;
                    break;
                }
            }
            size = before;
        }

        /** Each kept row lacks the highest bits of those before it, so one pass in order is enough. */
        private boolean keepIfIndependent(int row) {
            int rest = row;
            for (int i = 0; i < size; i++) {
                rest = Math.min(rest, rest ^ kept[i]);
            }
            if (rest == 0 || size >= MOST_POWER) {
                return false;
            }
            kept[size] = rest;
            size++;
            return true;
        }
    }

    /** Finds the WORST corner box of a scatter that is small enough. */
    private static final class Corners {
        final int[] bestHighs = new int[MEASURED_DIRECTIONS];
        long best;
        boolean bestIsClosed;
        private final int[] highs = new int[MEASURED_DIRECTIONS];
        private final int[] uses = new int[MEASURED_DIRECTIONS * (MEASURED_COUNT + 1)];
        private int base;
        private int number;

        void search(Scatter scatter, int[] below) {
            base = scatter.count + 1;
            number = (int) powerOf(base, scatter.directions);
            best = Long.MIN_VALUE;
            if (number > below.length) {
                return;
            }
            noteParts(scatter);
            countBelow(scatter, below);
            long layer = powerOf(scatter.count, scatter.directions - 1);
            int diagonal = diagonalOf(scatter);
            // Corners in the order of their numbers: HIGHS by DIRECTIONS, the lesser first.
            for (int corner = 0; corner < number; corner++) {
                setHighs(scatter, corner);
                if (cornerMayBe(scatter, true)) {
                    long size = sizeOf(scatter);
                    consider(scatter, size - layer * below[corner], false);
                    if (cornerMayBe(scatter, false) && corner + diagonal < number) {
                        consider(scatter, layer * below[corner + diagonal] - size, true);
                    }
                }
            }
        }

        private void consider(Scatter scatter, long excess, boolean closed) {
            if (excess > best) {
                best = excess;
                bestIsClosed = closed;
                System.arraycopy(highs, 0, bestHighs, 0, scatter.directions);
            }
        }

        private void noteParts(Scatter scatter) {
            Arrays.fill(uses, 0);
            for (int j = 0; j < scatter.directions; j++) {
                for (int n = 0; n < scatter.count; n++) {
                    uses[j * base + scatter.partAt(n, j)]++;
                }
            }
        }

        /**
         * In below[corner] how many points the open corner box has; a closed one has those of the
         * open one whose HIGHS are all 1 more, one diagonal further.
         */
        private void countBelow(Scatter scatter, int[] below) {
            Arrays.fill(below, 0, number, 0);
            for (int n = 0; n < scatter.count; n++) {
                int corner = 0;
                for (int j = 0; j < scatter.directions; j++) {
                    corner = corner * base + scatter.partAt(n, j) + 1;
                }
                below[corner]++;
            }
            int stride = 1;
            for (int j = 0; j < scatter.directions; j++) {
                for (int corner = stride; corner < number; corner++) {
                    if (corner / stride % base > 0) {
                        below[corner] += below[corner - stride];
                    }
                }
                stride *= base;
            }
        }

        private int diagonalOf(Scatter scatter) {
            int diagonal = 0;
            for (int j = 0; j < scatter.directions; j++) {
                diagonal = diagonal * base + 1;
            }
            return diagonal;
        }

        private void setHighs(Scatter scatter, int corner) {
            int rest = corner;
            for (int j = scatter.directions - 1; j >= 0; j--) {
                highs[j] = rest % base;
                rest /= base;
            }
        }

        private boolean cornerMayBe(Scatter scatter, boolean open) {
            for (int j = 0; j < scatter.directions; j++) {
                boolean top = open && highs[j] == scatter.count;
                if (!top && uses[j * base + highs[j]] == 0) {
                    return false;
                }
            }
            return true;
        }

        private long sizeOf(Scatter scatter) {
            long size = 1;
            for (int j = 0; j < scatter.directions; j++) {
                size *= highs[j];
            }
            return size;
        }
    }
}
