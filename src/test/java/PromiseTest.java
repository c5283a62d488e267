/** Each promise of the document by its number: ordinary inputs, its edges, and wrong inputs. */
public final class PromiseTest {
    private static final int LEAST = Integer.MIN_VALUE;
    private static final int GREATEST = Integer.MAX_VALUE;

    private static int wrong = 0;
    private static int promise = 0;

    private static void due(String call, long got, long want) {
        if (got != want) {
            wrong++;
            System.out.println("promise " + promise + ": " + call + " answered " + got + ", due is " + want);
        }
    }

    /** The answers of part() for all points of one DIRECTION. */
    private static void dueParts(EvenScatter x, int s, int j, int... want) {
        for (int n = 0; n < want.length; n++) {
            due("part(" + s + ", " + n + ", " + j + ")", x.part(s, n, j), want[n]);
        }
        due("part past the last", x.part(s, want.length, j), -1);
    }

    /** How many refusals of each number there were, -1 .. -6. */
    private static void dueRefusals(EvenScatter x, int... want) {
        for (int i = 0; i < 6; i++) {
            due("status(" + (11 + i) + ")", x.status(11 + i), want[i]);
        }
    }

    public static void main(String[] args) {
        newObject();
        table();
        row();
        ladder();
        direction();
        directionRefused();
        turned();
        mask();
        grid();
        step();
        lots();
        scatter();
        part();
        next();
        skip();
        side();
        mark();
        count();
        back();
        even();
        why();
        grade();
        pair();
        gap();
        worst();
        worstTies();
        square();
        wave();
        waves();
        sum();
        status();
        System.out.println(wrong == 0 ? "all promises hold" : wrong + " answers are not as due");
        if (wrong != 0) {
            System.exit(1);
        }
    }

    private static void newObject() {
        promise = 1;
        EvenScatter x = new EvenScatter();
        due("status(0)", x.status(0), 0);
        due("status(1)", x.status(1), 0);
        dueRefusals(x, 0, 0, 0, 0, 0, 0);
        due("scatter(0, 0)", x.scatter(0, 0), -1);
        for (int j = 0; j < 6; j++) {
            due("mark", x.mark(j, 3), 0);
        }
        EvenScatter y = new EvenScatter();
        due("mark of another object", y.mark(0, 0), 0);
    }

    private static void table() {
        promise = 2;
        EvenScatter x = new EvenScatter();
        due("table(0, 0)", x.table(0, 0), -4);
        due("table(1, -1)", x.table(1, -1), -4);
        due("table(0, 9)", x.table(0, 9), -4);
        due("table(7, -1)", x.table(7, -1), -4);
        due("table(7, 0)", x.table(7, 0), -6);
        due("table(1, 9)", x.table(1, 9), -6);
        due("table(ends)", x.table(GREATEST, LEAST), -4);
        due("table(ends)", x.table(GREATEST, GREATEST), -6);
        due("table(6, 8)", x.table(6, 8), 0);
        due("table(1, 0)", x.table(1, 0), 1);
        for (int s = 2; s < 12; s++) {
            due("table(2, 2)", x.table(2, 2), s);
        }
        due("table, the 13th", x.table(2, 2), -6);
        due("table, the 13th", x.table(0, 2), -4);
        due("kind", x.scatter(0, 0), 0);
        due("count", x.scatter(0, 2), 256);
        due("count", x.scatter(1, 2), 1);
        due("rows are 0 at first", x.part(0, 255, 5), 0);
    }

    private static void row() {
        promise = 3;
        EvenScatter x = new EvenScatter();
        x.table(2, 3);
        due("row", x.row(0, 1, 0, 7), 0);
        due("row", x.row(0, 1, 0, 5), 7);
        due("row", x.row(0, 1, 2, 2), 0);
        dueParts(x, 0, 1, 0, 4, 1, 5, 4, 0, 5, 1);
        dueParts(x, 0, 0, 0, 0, 0, 0, 0, 0, 0, 0);
        due("row, i past", x.row(0, 1, 3, 1), -3);
        due("row, i below", x.row(0, 1, -1, 1), -3);
        due("row, bits past", x.row(0, 1, 0, 8), -3);
        due("row, bits below", x.row(0, 1, 0, -1), -3);
        due("row, j past", x.row(0, 2, 3, 8), -1);
        due("row, j below", x.row(0, -1, 0, 0), -1);
        due("row, s past", x.row(1, 0, 0, 0), -1);
        due("row, s below", x.row(-1, 0, 0, 0), -1);
        due("a refused row changes nothing", x.row(0, 1, 0, 5), 5);
        x.ladder(3);
        x.turned(0);
        x.grid(8, 1);
        x.lots(1, 3, 0L);
        for (int s = 1; s < 5; s++) {
            due("row of another kind", x.row(s, 0, 9, 9), -2);
            due("row of another kind, no direction", x.row(s, 5, 0, 0), -1);
        }
        x.table(1, 0);
        due("row of POWER 0", x.row(5, 0, 0, 0), -3);
        // Two of them by dueParts.
        dueRefusals(x, 10, 4, 5, 0, 0, 0);
    }

    private static void ladder() {
        promise = 4;
        EvenScatter x = new EvenScatter();
        due("ladder(-1)", x.ladder(-1), -4);
        due("ladder(9)", x.ladder(9), -6);
        due("ladder(3)", x.ladder(3), 0);
        dueParts(x, 0, 0, 0, 4, 2, 6, 1, 5, 3, 7);
        due("one direction", x.scatter(0, 1), 1);
        due("kind", x.scatter(0, 0), 1);
        due("ladder(0)", x.ladder(0), 1);
        due("ladder(8)", x.ladder(8), 2);
        due("part", x.part(2, 1, 0), 128);
        due("part", x.part(2, 254, 0), 127);
        for (int s = 3; s < 12; s++) {
            due("ladder(1)", x.ladder(1), s);
        }
        due("ladder, the 13th", x.ladder(1), -6);
        due("ladder, the 13th", x.ladder(-1), -4);
    }

    private static void direction() {
        promise = 5;
        EvenScatter x = new EvenScatter();
        x.ladder(3);
        due("direction", x.direction(0, 3, 1L), 1);
        // v = 1, 3, 5: columns 100, 110, 101 from the highest figure on.
        dueParts(x, 0, 1, 0, 4, 6, 2, 5, 1, 3, 7);
        due("direction", x.direction(0, 7, 0x0301L), 2);
        // v = 1, 3, and 1 ^ 4 ^ 2 * 3 = 3.
        dueParts(x, 0, 2, 0, 4, 6, 2, 3, 7, 5, 1);
        due("bytes past the q-th are not looked at", x.direction(0, 7, 0xfefefefefefe0301L), 3);
        dueParts(x, 0, 3, 0, 4, 6, 2, 3, 7, 5, 1);
        due("without the middle bit", x.direction(0, 5, 0x0101L), 4);
        // v = 1, 1, and 1 ^ 4 = 5.
        dueParts(x, 0, 4, 0, 4, 2, 6, 5, 1, 7, 3);
        due("degree above POWER", x.direction(0, 127, 0x3f1f0f070301L), 5);
        dueParts(x, 0, 5, 0, 4, 6, 2, 7, 3, 1, 5);
        due("directions", x.scatter(0, 1), 6);
        due("a seventh", x.direction(0, 3, 1L), -6);
        x.ladder(0);
        due("of POWER 0", x.direction(1, 3, 1L), 1);
        dueParts(x, 1, 1, 0);
        x.ladder(8);
        due("degree 6 of POWER 8", x.direction(2, 67, 0x010101010101L), 1);
        // v(7) = 1 ^ 64 ^ 32 * v(2), v(8) = 1 ^ 64 ^ 32 * v(3): bit 1 of 67 is that of i = 5.
        due("part", x.part(2, 64, 1), 97 << 1);
        due("part", x.part(2, 128, 1), 97);
    }

    private static void directionRefused() {
        promise = 5;
        EvenScatter x = new EvenScatter();
        x.ladder(4);
        due("no scatter", x.direction(1, 2, 0L), -1);
        due("no scatter", x.direction(-1, 2, 0L), -1);
        x.table(1, 4);
        due("a TABLE", x.direction(1, 2, 0L), -2);
        due("p below 3", x.direction(0, 2, 0L), -4);
        due("p below 3", x.direction(0, 1, 1L), -4);
        due("p below 3", x.direction(0, LEAST, 1L), -4);
        due("p above 127", x.direction(0, 128, 0L), -6);
        due("p above 127", x.direction(0, 129, 0x0101L), -6);
        due("p above 127", x.direction(0, GREATEST, 1L), -6);
        due("p even", x.direction(0, 4, 0x0101L), -3);
        due("p even", x.direction(0, 126, 0x010101010101L), -3);
        due("v(1) is 0", x.direction(0, 3, 0L), -3);
        due("v(1) is 3", x.direction(0, 3, 3L), -3);
        due("v(2) is 0", x.direction(0, 7, 0x0001L), -3);
        due("v(2) is even", x.direction(0, 7, 0x0201L), -3);
        due("v(2) is 5", x.direction(0, 7, 0x0501L), -3);
        due("v(6) is 65", x.direction(0, 127, 0x410101010101L), -3);
        due("v(6) is 255", x.direction(0, 127, 0xff0101010101L), -3);
        due("none was added", x.scatter(0, 1), 1);
        for (int j = 1; j < 6; j++) {
            due("direction", x.direction(0, 3, 1L), j);
        }
        due("six there are, p below", x.direction(0, 2, 0L), -4);
        due("six there are, p even", x.direction(0, 4, 0L), -6);
        dueRefusals(x, 2, 1, 9, 4, 0, 4);
    }

    private static void turned() {
        promise = 6;
        EvenScatter x = new EvenScatter();
        due("no scatter", x.turned(0), -1);
        x.table(2, 2);
        x.row(0, 0, 0, 1);
        x.next(0);
        due("turned", x.turned(0), 1);
        due("kind", x.scatter(1, 0), 2);
        due("its TURN is its own", x.scatter(1, 4), 0);
        dueParts(x, 1, 0, 0, 2, 0, 2);
        x.row(0, 0, 0, 2);
        dueParts(x, 0, 0, 0, 0, 2, 2);
        dueParts(x, 1, 0, 0, 2, 0, 2);
        x.mask(1, 1, 3);
        due("of a TURNED", x.turned(1), 2);
        x.mask(1, 1, 0);
        dueParts(x, 2, 1, 3, 3, 3, 3);
        dueParts(x, 2, 0, 0, 2, 0, 2);
        due("its MASK is copied", x.mask(2, 1, 3), 3);
        x.ladder(2);
        due("of a LADDER", x.turned(3), 4);
        x.direction(3, 3, 1L);
        due("directions as they were", x.scatter(4, 1), 1);
        due("no direction more", x.direction(4, 3, 1L), -2);
        due("grid", x.grid(4, 1), 5);
        due("lots", x.lots(1, 2, 0L), 6);
        due("of a GRID", x.turned(5), -2);
        due("of LOTS", x.turned(6), -2);
        for (int s = 7; s < 12; s++) {
            due("turned", x.turned(0), s);
        }
        due("the 13th", x.turned(0), -6);
        due("the 13th of a GRID", x.turned(5), -2);
        due("the 13th of nobody", x.turned(12), -1);
    }

    private static void mask() {
        promise = 7;
        EvenScatter x = new EvenScatter();
        x.ladder(3);
        x.direction(0, 3, 1L);
        x.turned(0);
        due("mask", x.mask(1, 1, 5), 0);
        due("mask", x.mask(1, 1, 7), 5);
        dueParts(x, 1, 1, 7, 3, 1, 5, 2, 6, 4, 0);
        dueParts(x, 1, 0, 0, 4, 2, 6, 1, 5, 3, 7);
        due("bits past", x.mask(1, 1, 8), -3);
        due("bits below", x.mask(1, 1, -1), -3);
        due("another kind", x.mask(0, 1, 8), -2);
        due("another kind, no direction", x.mask(0, 2, 8), -1);
        due("no direction", x.mask(1, 2, 0), -1);
        due("no direction", x.mask(1, -1, 0), -1);
        due("no scatter", x.mask(2, 0, 0), -1);
        due("a refused mask changes nothing", x.mask(1, 1, 0), 7);
        dueParts(x, 1, 1, 0, 4, 6, 2, 5, 1, 3, 7);
    }

    private static void grid() {
        promise = 8;
        EvenScatter x = new EvenScatter();
        due("grid(0, 1)", x.grid(0, 1), -4);
        due("grid(1, 0)", x.grid(1, 0), -4);
        due("grid(257, 0)", x.grid(257, 0), -4);
        due("grid(257, 1)", x.grid(257, 1), -6);
        due("grid(1, 7)", x.grid(1, 7), -6);
        due("grid(256, 6)", x.grid(256, 6), 0);
        due("steps are 0 at first", x.part(0, 255, 5), 0);
        due("kind", x.scatter(0, 0), 3);
        due("count", x.scatter(0, 2), 256);
        for (int s = 1; s < 12; s++) {
            due("grid(1, 1)", x.grid(1, 1), s);
        }
        due("the 13th", x.grid(1, 1), -6);
        due("the 13th", x.grid(-1, 1), -4);
    }

    private static void step() {
        promise = 9;
        EvenScatter x = new EvenScatter();
        x.grid(7, 2);
        due("step", x.step(0, 1, 3), 0);
        due("step", x.step(0, 1, 5), 3);
        dueParts(x, 0, 1, 0, 5, 3, 1, 6, 4, 2);
        dueParts(x, 0, 0, 0, 0, 0, 0, 0, 0, 0);
        due("past", x.step(0, 1, 7), -3);
        due("below", x.step(0, 1, -1), -3);
        due("no direction", x.step(0, 2, 9), -1);
        due("no scatter", x.step(1, 0, 0), -1);
        x.table(1, 3);
        due("another kind", x.step(1, 0, 9), -2);
        due("another kind, no direction", x.step(1, 1, 9), -1);
        due("a refused step changes nothing", x.step(0, 1, 6), 5);
        x.grid(256, 1);
        x.step(2, 0, 255);
        due("part", x.part(2, 255, 0), 1);
    }

    private static void lots() {
        promise = 10;
        EvenScatter x = new EvenScatter();
        due("lots(0, 0)", x.lots(0, 0, 1L), -4);
        due("lots(1, -1)", x.lots(1, -1, 1L), -4);
        due("lots(7, -1)", x.lots(7, -1, 1L), -4);
        due("lots(7, 0)", x.lots(7, 0, 1L), -6);
        due("lots(1, 9)", x.lots(1, 9, 1L), -6);
        due("lots", x.lots(2, 2, 0L), 0);
        // From seed 0 the first w is the addend itself, 1442695040888963407: its highest bits are 00.
        due("part", x.part(0, 0, 0), 0);
        long w = 0;
        for (int n = 0; n < 4; n++) {
            for (int j = 0; j < 2; j++) {
                w = w * 6364136223846793005L + 1442695040888963407L;
                due("part", x.part(0, n, j), w >>> 62);
            }
        }
        due("POWER 0", x.lots(6, 0, -1L), 1);
        dueParts(x, 1, 5, 0);
        due("POWER 8", x.lots(1, 8, Long.MIN_VALUE), 2);
        w = Long.MIN_VALUE * 6364136223846793005L + 1442695040888963407L;
        due("part", x.part(2, 0, 0), w >>> 56);
        due("kind", x.scatter(2, 0), 4);
        due("POWER", x.scatter(2, 3), 8);
        for (int s = 3; s < 12; s++) {
            due("lots", x.lots(1, 1, s), s);
        }
        due("the 13th", x.lots(1, 1, 1L), -6);
    }

    private static void scatter() {
        promise = 11;
        EvenScatter x = new EvenScatter();
        x.table(3, 5);
        int[] of = {0, 3, 32, 5, 0};
        for (int what = 0; what < 5; what++) {
            due("scatter(0, " + what + ")", x.scatter(0, what), of[what]);
        }
        x.grid(12, 4);
        due("POWER of a GRID", x.scatter(1, 3), -1);
        due("no refusal was that", x.status(11), 0);
        due("KIND of a GRID", x.scatter(1, 0), 3);
        due("DIRECTIONS of a GRID", x.scatter(1, 1), 4);
        due("COUNT of a GRID", x.scatter(1, 2), 12);
        x.next(1);
        x.next(1);
        due("TURN", x.scatter(1, 4), 2);
        x.skip(1, 50);
        due("TURN", x.scatter(1, 4), 50);
        due("no what", x.scatter(0, 5), -2);
        due("no what", x.scatter(0, -1), -2);
        due("no scatter", x.scatter(2, 9), -1);
        due("no scatter", x.scatter(LEAST, 0), -1);
    }

    private static void part() {
        promise = 12;
        EvenScatter x = new EvenScatter();
        due("no scatter", x.part(0, 0, 0), -1);
        x.table(2, 2);
        // Row 0 is the highest figure.
        x.row(0, 0, 0, 3);
        x.row(0, 0, 1, 2);
        dueParts(x, 0, 0, 0, 2, 3, 1);
        due("no point", x.part(0, -1, 0), -1);
        due("no direction", x.part(0, 0, 2), -1);
        due("no direction", x.part(0, 0, -1), -1);
        due("ends", x.part(0, GREATEST, GREATEST), -1);
        due("status(11)", x.status(11), 6);
    }

    private static void next() {
        promise = 13;
        EvenScatter x = new EvenScatter();
        due("no scatter", x.next(0), -1);
        x.table(1, 2);
        int[] gray = {0, 1, 3, 2, 0, 1, 3, 2, 0};
        for (int turn = 0; turn < gray.length; turn++) {
            due("next, turn " + turn, x.next(0), gray[turn]);
        }
        x.grid(3, 1);
        for (int turn = 0; turn < 7; turn++) {
            due("next of a GRID", x.next(1), turn % 3);
        }
        x.lots(1, 3, 4L);
        x.skip(2, 7);
        due("next of LOTS", x.next(2), 4);
        due("next of LOTS", x.next(2), 0);
        x.skip(2, 999999);
        due("the last turn", x.next(2), 4);
        due("TURN", x.scatter(2, 4), 1000000);
        due("no turn more", x.next(2), -6);
        due("TURN", x.scatter(2, 4), 1000000);
        due("told", x.status(1), 9 + 7 + 3);
        due("status(16)", x.status(16), 1);
    }

    private static void skip() {
        promise = 14;
        EvenScatter x = new EvenScatter();
        due("no scatter", x.skip(0, -1), -1);
        x.table(1, 3);
        due("skip", x.skip(0, 1000000), 0);
        due("skip", x.skip(0, 5), 1000000);
        due("next", x.next(0), 7);
        due("below", x.skip(0, -1), -4);
        due("above", x.skip(0, 1000001), -6);
        due("a refused skip changes nothing", x.skip(0, 0), 6);
        due("next", x.next(0), 0);
        due("skip tells no point", x.status(1), 2);
    }

    private static void side() {
        promise = 15;
        EvenScatter x = new EvenScatter();
        due("below", x.side(-1, 0, 4), -1);
        due("past", x.side(6, 0, 4), -1);
        due("side", x.side(5, LEAST, GREATEST), 1);
        x.grid(4, 1);
        due("count", x.count(0), 0);
        due("side", x.side(0, LEAST, GREATEST), 1);
        due("count", x.count(0), 4);
        due("side", x.side(0, 3, 1), 1);
        due("low above high", x.count(0), 0);
    }

    private static void mark() {
        promise = 16;
        EvenScatter x = new EvenScatter();
        due("mark", x.mark(5, -1), 0);
        due("what it was, below 0", x.mark(5, LEAST), -1);
        due("no refusal was that", x.status(11), 0);
        due("what it was", x.mark(5, 0), LEAST);
        due("below", x.mark(-1, 0), -1);
        due("past", x.mark(6, 0), -1);
        due("refusals", x.status(11), 2);
    }

    private static void count() {
        promise = 17;
        EvenScatter x = new EvenScatter();
        due("no scatter", x.count(0), -1);
        x.ladder(3);
        x.direction(0, 3, 1L);
        // Points (0,0) (4,4) (2,6) (6,2) (1,5) (5,1) (3,3) (7,7).
        due("empty at first", x.count(0), 0);
        x.side(0, 1, 5);
        x.side(1, 3, 6);
        due("count", x.count(0), 3);
        x.side(0, 2, 5);
        due("low is in", x.count(0), 2);
        x.side(0, 2, 4);
        due("high is out", x.count(0), 1);
        x.side(2, 9, 9);
        due("other directions do not count", x.count(0), 1);
        x.side(0, -5, 99);
        x.side(1, -5, 99);
        due("all", x.count(0), 8);
    }

    private static void back() {
        promise = 18;
        EvenScatter x = new EvenScatter();
        due("no scatter", x.back(0), -1);
        x.ladder(3);
        x.direction(0, 3, 1L);
        x.mark(0, 2);
        x.mark(1, 6);
        due("back", x.back(0), 2);
        x.mark(2, 77);
        due("other directions do not count", x.back(0), 2);
        x.mark(1, 7);
        due("none", x.back(0), -9);
        x.mark(1, -6);
        due("none", x.back(0), -9);
        x.grid(6, 1);
        x.step(1, 0, 4);
        due("the least: 4 8 12 16 20 modulo 6 is 4 2 0 4 2", x.back(1), 2);
        due("one refusal", x.status(11), 1);
    }

    private static void even() {
        promise = 19;
        EvenScatter x = new EvenScatter();
        due("no scatter", x.even(0), -1);
        x.ladder(3);
        x.direction(0, 3, 1L);
        due("one box", x.even(0), 1);
        x.mark(0, 1);
        x.mark(1, 2);
        due("even", x.even(0), 1);
        x.mark(0, 2);
        due("more boxes than points", x.even(0), 0);
        x.mark(0, 4);
        due("a MARK above POWER", x.even(0), -3);
        x.mark(0, -1);
        due("a MARK below 0", x.even(0), -3);
        x.mark(0, 0);
        x.mark(2, -1);
        due("other directions do not count", x.even(0), 1);
        x.mark(2, 0);
        x.table(2, 3);
        x.mark(1, 1);
        due("all points in one box", x.even(1), 0);
        x.grid(8, 2);
        x.mark(1, 99);
        due("a GRID", x.even(2), -2);
        x.lots(1, 0, 5L);
        due("LOTS", x.even(3), 1);
        x.table(3, 8);
        x.mark(0, 8);
        x.mark(1, 8);
        x.mark(2, 0);
        due("sum 16", x.even(4), 0);
        x.mark(2, 1);
        due("sum 17", x.even(4), -6);
        x.mark(2, 9);
        due("sum 25, but a MARK", x.even(4), -3);
        dueRefusals(x, 1, 1, 3, 0, 0, 1);
    }

    private static void why() {
        promise = 20;
        EvenScatter x = new EvenScatter();
        due("no scatter", x.why(0), -9);
        x.table(2, 2);
        due("even", x.why(0), -9);
        x.mark(0, 1);
        due("all four in the first", x.why(0), 4);
        x.turned(0);
        x.mask(1, 0, 2);
        due("all four in the second", x.why(1), 0);
        // DIRECTION 0 first: boxes (0,0) 1, (0,1) 1, (1,0) 2, (1,1) 0, the mean is 1.
        x.row(0, 0, 0, 1);
        x.row(0, 1, 0, 2);
        x.mark(1, 1);
        due("even", x.why(0), -9);
        x.row(0, 0, 0, 0);
        due("(0,0) has 2", x.why(0), 2);
        x.lots(2, 2, 12L);
        int[] boxes = new int[4];
        for (int n = 0; n < 4; n++) {
            boxes[x.part(2, n, 0) / 2 * 2 + x.part(2, n, 1) / 2]++;
        }
        int first = -9;
        for (int b = 3; b >= 0; b--) {
            first = boxes[b] == 1 ? first : boxes[b];
        }
        due("of LOTS", x.why(2), first);
        x.mark(0, 2);
        x.turned(0);
        x.mask(3, 0, 3);
        due("a mean below 1, the first box empty", x.why(3), 0);
        due("a mean below 1, the first box not", x.why(0), 2);
        x.mark(0, 3);
        due("a MARK", x.why(0), -9);
        x.grid(4, 2);
        due("a GRID", x.why(4), -9);
        x.table(3, 8);
        x.mark(0, 8);
        x.mark(1, 8);
        x.mark(2, 8);
        due("sum 24", x.why(5), -9);
        dueRefusals(x, 0, 0, 0, 0, 0, 0);
    }

    private static void grade() {
        promise = 21;
        EvenScatter x = new EvenScatter();
        due("no scatter", x.grade(0), -1);
        x.table(2, 3);
        due("all rows 0", x.grade(0), 3);
        for (int i = 0; i < 3; i++) {
            x.row(0, 0, i, 1 << i);
            x.row(0, 1, i, 4 >> i);
        }
        due("a net", x.grade(0), 0);
        x.row(0, 1, 2, 4);
        due("the last rows dependent", x.grade(0), 1);
        x.row(0, 1, 2, 1);
        x.row(0, 1, 1, 1);
        due("two rows together dependent", x.grade(0), 1);
        x.row(0, 1, 0, 1);
        due("the first rows alike", x.grade(0), 2);
        x.row(0, 1, 0, 0);
        due("a first row of 0", x.grade(0), 3);
        x.turned(0);
        x.mask(1, 0, 6);
        due("a MASK changes no grade", x.grade(1), 3);
        x.ladder(8);
        due("one direction", x.grade(2), 0);
        x.direction(2, 3, 1L);
        due("two directions", x.grade(2), 0);
        x.table(6, 0);
        due("POWER 0", x.grade(3), 0);
        x.grid(8, 1);
        x.lots(1, 3, 0L);
        due("a GRID", x.grade(4), -2);
        due("LOTS", x.grade(5), -2);
        due("no scatter", x.grade(6), -1);
    }

    private static void pair() {
        promise = 22;
        EvenScatter x = new EvenScatter();
        x.ladder(4);
        x.direction(0, 3, 1L);
        x.direction(0, 7, 0x0301L);
        due("pair(0, 1)", x.pair(0, 0, 1), 0);
        due("pair(1, 0)", x.pair(0, 1, 0), 0);
        due("pair(1, 2)", x.pair(0, 1, 2), 1);
        due("pair(2, 1)", x.pair(0, 2, 1), 1);
        due("one and the same", x.pair(0, 1, 1), -1);
        due("no direction", x.pair(0, 0, 3), -1);
        due("no direction", x.pair(0, -1, 0), -1);
        due("no scatter", x.pair(1, 0, 1), -1);
        x.grid(8, 2);
        x.lots(2, 3, 0L);
        due("a GRID", x.pair(1, 0, 1), -2);
        due("LOTS", x.pair(2, 1, 0), -2);
        due("a GRID, one and the same", x.pair(1, 1, 1), -1);
        x.table(3, 2);
        x.row(3, 2, 0, 1);
        x.row(3, 2, 1, 2);
        due("with a direction of 0", x.pair(3, 0, 2), 2);
        x.row(3, 0, 0, 2);
        x.row(3, 0, 1, 1);
        due("without it", x.pair(3, 0, 2), 0);
        due("grade of all", x.grade(3), 2);
    }

    private static void gap() {
        promise = 23;
        EvenScatter x = new EvenScatter();
        due("no scatter", x.gap(0, false, 9), -999);
        x.ladder(3);
        x.direction(0, 3, 1L);
        due("no points, no size", x.gap(0, false, 0), 0);
        due("0 is told as 0 / 1", x.gap(0, false, 1), 1);
        due("closed has (0,0)", x.gap(0, true, 0), 1);
        due("closed has (0,0)", x.gap(0, true, 1), 8);
        // Points (0,0) (4,4) (2,6) (6,2) (1,5) (5,1) (3,3) (7,7).
        x.side(0, 99, 4);
        x.side(1, 99, 3);
        due("1 / 8 less 12 / 64", x.gap(0, false, 0), 1);
        due("1 / 8 less 12 / 64", x.gap(0, false, 1), 16);
        due("2 / 8 less 12 / 64", x.gap(0, true, 0), 1);
        due("2 / 8 less 12 / 64", x.gap(0, true, 1), 16);
        x.side(1, 0, 8);
        due("4 / 8 less 32 / 64", x.gap(0, false, 0), 0);
        due("5 / 8 less 32 / 64", x.gap(0, true, 0), 1);
        due("5 / 8 less 32 / 64", x.gap(0, true, 1), 8);
        due("no what", x.gap(0, true, 2), -998);
        due("no what", x.gap(0, true, -1), -998);
        x.side(1, 0, 9);
        due("a HIGH above", x.gap(0, true, 0), -997);
        due("a HIGH above, no what", x.gap(0, true, 2), -998);
        x.side(1, 0, -1);
        due("a HIGH below", x.gap(0, false, 1), -997);
        x.side(1, 0, 8);
        x.side(2, 0, -1);
        due("other directions do not count", x.gap(0, false, 0), 0);
        x.grid(256, 6);
        for (int j = 0; j < 6; j++) {
            x.side(j, 0, 255);
        }
        due("1 less 255 / 256 to the 6", x.gap(1, false, 1), 281474976710656L);
        due("1 less 255 / 256 to the 6", x.gap(1, true, 0), 281474976710656L - 274941996890625L);
        dueRefusals(x, 1, 3, 2, 0, 0, 0);
    }

    private static void worst() {
        promise = 24;
        EvenScatter x = new EvenScatter();
        due("no scatter", x.worst(0, 99), -999);
        x.ladder(1);
        due("1 / 2, closed at 0", x.worst(0, 0), 1);
        due("1 / 2, closed at 0", x.worst(0, 1), 2);
        due("1 / 2, closed at 0", x.worst(0, 2), 1);
        due("1 / 2, closed at 0", x.worst(0, 3), 0);
        due("no what", x.worst(0, 4), -998);
        due("no what", x.worst(0, -1), -998);
        due("no what", x.worst(0, GREATEST), -998);
        x.table(2, 2);
        x.turned(1);
        x.mask(2, 0, 3);
        x.mask(2, 1, 3);
        due("all at (3,3): open (3,4) is 12 / 16", x.worst(2, 0), 3);
        due("all at (3,3)", x.worst(2, 1), 4);
        due("all at (3,3)", x.worst(2, 2), 0);
        due("all at (3,3)", x.worst(2, 3), 3);
        due("all at (3,3)", x.worst(2, 4), 4);
        due("all at (0,0): closed, 1", x.worst(1, 0), 1);
        due("all at (0,0): closed, 1", x.worst(1, 2), 1);
        due("all at (0,0): closed, 1", x.worst(1, 4), 0);
        x.grid(64, 2);
        x.grid(65, 1);
        x.grid(16, 3);
        x.grid(17, 3);
        x.grid(1, 4);
        due("64 of two", x.worst(3, 0), 1);
        due("65 of one", x.worst(4, 0), -994);
        due("16 of three", x.worst(5, 5), 0);
        due("17 of three", x.worst(6, 0), -994);
        due("four", x.worst(7, 0), -994);
        due("four, what 6", x.worst(7, 6), -994);
        due("four, no what", x.worst(7, 7), -998);
        dueRefusals(x, 1, 4, 0, 0, 0, 4);
    }

    /** Of several the one whose HIGHS are first, of like HIGHS the open one. */
    private static void worstTies() {
        promise = 24;
        EvenScatter x = new EvenScatter();
        x.ladder(3);
        due("each closed one of 1 / 8: the first", x.worst(0, 3), 0);
        due("1 / 8", x.worst(0, 1), 8);
        x.grid(4, 1);
        x.step(1, 0, 2);
        // Parts 0 2 0 2: closed at 0 is 2 / 4, closed at 2 is 1 less 2 / 4.
        due("closed at 0", x.worst(1, 3), 0);
        due("closed at 0", x.worst(1, 0), 1);
        due("closed at 0", x.worst(1, 1), 2);
        x.table(1, 1);
        x.turned(2);
        x.mask(3, 0, 1);
        // All at 1 of 2: open at 1 is 1 / 2, and closed at 1 is 1 less 1 / 2.
        due("of like HIGHS the open one", x.worst(3, 2), 0);
        due("of like HIGHS the open one", x.worst(3, 3), 1);
        due("1 / 2", x.worst(3, 1), 2);
        x.ladder(2);
        x.direction(4, 3, 1L);
        // Points (0,0) (2,2) (1,3) (3,1): all four are in the closed (3,3), 1 less 9 / 16.
        due("numerator", x.worst(4, 0), 7);
        due("denominator", x.worst(4, 1), 16);
        due("closed", x.worst(4, 2), 1);
        due("HIGH 0", x.worst(4, 3), 3);
        due("HIGH 1", x.worst(4, 4), 3);
    }

    private static void square() {
        promise = 25;
        EvenScatter x = new EvenScatter();
        due("no scatter", x.square(0, 9), -999);
        x.ladder(1);
        // Share 1/2 below 1/2, 1 above: the mean of (1/2 - h)^2 and (1 - h)^2 is 1/24 + 1/24.
        due("1 / 12", x.square(0, 0), 1);
        due("1 / 12", x.square(0, 1), 12);
        x.grid(1, 3);
        // One point at the origin: the mean of (1 - h h' h'')^2 is 1 - 2 / 8 + 1 / 27.
        due("85 / 108", x.square(1, 0), 85);
        due("85 / 108", x.square(1, 1), 108);
        x.grid(2, 2);
        due("two points at the origin: 1 - 2 / 4 + 1 / 9", x.square(2, 0), 11);
        due("two points at the origin: 1 - 2 / 4 + 1 / 9", x.square(2, 1), 18);
        due("no what", x.square(0, 2), -998);
        due("no what", x.square(0, -1), -998);
        x.grid(64, 3);
        x.grid(65, 1);
        x.grid(1, 4);
        due("64 of three", x.square(3, 0), 85);
        due("65", x.square(4, 0), -994);
        due("four", x.square(5, 0), -994);
        due("four, no what", x.square(5, 2), -998);
        dueRefusals(x, 1, 3, 0, 0, 0, 2);
    }

    private static void wave() {
        promise = 26;
        EvenScatter x = new EvenScatter();
        due("no scatter", x.wave(0), -999);
        x.ladder(3);
        x.direction(0, 3, 1L);
        due("marks 0", x.wave(0), 8);
        // Points (0,0) (4,4) (2,6) (6,2) (1,5) (5,1) (3,3) (7,7).
        x.mark(0, 1);
        due("one lowest bit", x.wave(0), 0);
        x.mark(1, 1);
        due("both lowest bits are alike", x.wave(0), 8);
        x.turned(0);
        x.mask(1, 1, 1);
        due("one turned", x.wave(1), -8);
        x.mask(1, 0, 1);
        due("both turned", x.wave(1), 8);
        x.mark(2, 8);
        due("other directions do not count", x.wave(0), 8);
        x.mark(1, 7);
        due("a MARK at its end", x.wave(0), 0);
        x.mark(1, 8);
        due("a MARK above", x.wave(0), -997);
        x.mark(1, -1);
        due("a MARK below", x.wave(0), -997);
        x.grid(8, 2);
        due("a GRID", x.wave(2), -998);
        x.mark(1, 0);
        x.mark(0, 1);
        x.lots(1, 1, 3L);
        int sum = 0;
        for (int n = 0; n < 2; n++) {
            sum += x.part(3, n, 0) == 1 ? -1 : 1;
        }
        due("LOTS", x.wave(3), sum);
        dueRefusals(x, 1, 1, 2, 0, 0, 0);
    }

    private static void waves() {
        promise = 27;
        EvenScatter x = new EvenScatter();
        due("no scatter", x.waves(0, -1, -1), -999);
        x.table(2, 1);
        // Both points at (0,0): every row of marks has the wave 2, as (0,1), (1,0), (1,1).
        due("first", x.waves(0, 2, 0), 1);
        due("second", x.waves(0, 2, 1), 2);
        due("third", x.waves(0, 2, 2), 3);
        due("no fourth", x.waves(0, 2, 3), -9);
        due("of one bit", x.waves(0, 1, 1), 2);
        due("of one bit no third", x.waves(0, 1, 2), -9);
        due("of no bit", x.waves(0, 0, 0), -9);
        due("far", x.waves(0, GREATEST, GREATEST), -9);
        x.row(0, 0, 0, 1);
        due("direction 0 is even now", x.waves(0, 2, 0), 1);
        due("direction 0 is even now", x.waves(0, 2, 1), -9);
        x.row(0, 1, 0, 1);
        due("both together alone", x.waves(0, 2, 0), 3);
        due("it has two bits", x.waves(0, 1, 0), -9);
        due("w below 0", x.waves(0, -1, 0), -996);
        due("i below 0", x.waves(0, 0, -1), -996);
        x.grid(2, 1);
        due("a GRID", x.waves(1, -1, 0), -998);
        x.table(6, 2);
        x.table(3, 4);
        x.table(2, 7);
        due("12 bits", x.waves(2, 12, 4094), 4095);
        due("12 bits", x.waves(3, 1, 11), 2048);
        due("14 bits", x.waves(4, 1, 0), -994);
        due("14 bits, w below 0", x.waves(4, -1, 0), -996);
        x.table(1, 0);
        due("POWER 0", x.waves(5, 1, 0), -9);
        x.turned(0);
        x.mask(6, 0, 1);
        due("a wave below 0 is not 0", x.waves(6, 2, 0), 3);
        dueRefusals(x, 1, 1, 0, 3, 0, 1);
    }

    private static void sum() {
        promise = 28;
        EvenScatter x = new EvenScatter();
        due("no scatter", x.sum(0, 9), -999);
        x.grid(4, 2);
        x.step(0, 0, 1);
        x.step(0, 1, 3);
        due("0 to the 0 is 1", x.sum(0, 0), 4);
        due("marks 0: no difference", x.sum(0, 1), 0);
        due("marks 0: no difference", x.sum(0, 2), 1);
        x.mark(0, 2);
        due("0 + 1 + 4 + 9", x.sum(0, 0), 14);
        // 14 / 64 less 1 / 3 is -22 / 192.
        due("the mean less the product", x.sum(0, 1), -11);
        due("the mean less the product", x.sum(0, 2), 96);
        x.mark(1, 3);
        // Points (0,0) (1,3) (2,2) (3,1): 27 + 32 + 9.
        due("both", x.sum(0, 0), 68);
        // 68 / 4096 less 1 / 12.
        due("both", x.sum(0, 1), -205);
        due("both", x.sum(0, 2), 3072);
        x.mark(2, -1);
        due("other directions do not count", x.sum(0, 0), 68);
        x.mark(1, 4);
        due("sum 6", x.sum(0, 0), -997);
        due("sum 6, no what", x.sum(0, 3), -998);
        x.mark(0, GREATEST);
        x.mark(1, GREATEST);
        due("a sum that would go round", x.sum(0, 0), -997);
        x.mark(0, -1);
        x.mark(1, 3);
        due("a MARK below 0", x.sum(0, 1), -997);
        due("no what", x.sum(0, -1), -998);
        x.grid(256, 1);
        x.step(1, 0, 1);
        x.mark(0, 5);
        long sum = 0;
        for (long v = 0; v < 256; v++) {
            sum += v * v * v * v * v;
        }
        due("the greatest", x.sum(1, 0), sum);
        x.table(1, 1);
        x.turned(2);
        x.mask(3, 0, 1);
        x.mark(0, 1);
        due("1 / 2 less 1 / 2", x.sum(3, 1), 0);
        x.mark(0, 5);
        // 1 / 32 less 1 / 6.
        due("-13 / 96", x.sum(3, 1), -13);
        due("-13 / 96", x.sum(3, 2), 96);
        dueRefusals(x, 1, 2, 3, 0, 0, 0);
    }

    private static void status() {
        promise = 29;
        EvenScatter x = new EvenScatter();
        for (int what : new int[] {LEAST, -1, 2, 10, 17, GREATEST}) {
            due("status(" + what + ")", x.status(what), -9);
        }
        x.grid(3, 1);
        x.table(1, 2);
        x.table(0, 2);
        due("scatters", x.status(0), 2);
        x.next(0);
        x.next(0);
        x.next(1);
        x.next(2);
        due("told", x.status(1), 3);
        x.grade(0);
        x.gap(0, true, 2);
        x.row(1, 0, 2, 0);
        x.worst(7, 0);
        x.skip(0, 1000001);
        x.back(0);
        x.mark(0, 9);
        x.back(0);
        dueRefusals(x, 2, 2, 1, 1, 0, 1);
        due("a what that is none is no refusal", x.status(99), -9);
        dueRefusals(x, 2, 2, 1, 1, 0, 1);
    }
}
