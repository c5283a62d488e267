import java.util.ArrayList;
import java.util.List;
import java.util.function.Consumer;
import java.util.function.ToLongFunction;

/**
 * Every way in which a call can be refused: which refusal is told when several fit, and that the
 * refused call changes nothing but how many refusals there were. Each case runs on two objects
 * of the same past, of which one alone is asked the call; then all that can be seen of both is
 * compared. Some 350 calls are made of each object: nothing is promised after the 512th.
 */
public final class RefusalTest {
    private static final int LEAST = Integer.MIN_VALUE;
    private static final int GREATEST = Integer.MAX_VALUE;

    // The scatters of the scene.
    private static final int TABLE = 0;
    private static final int LADDER = 1;
    private static final int TURNED = 2;
    private static final int GRID = 3;
    private static final int LOTS = 4;
    private static final int WIDE = 5;
    private static final int STILL = 6;
    private static final int ENDED = 7;
    private static final int FULL_LADDER = 8;
    private static final int NOBODY = 9;

    private static final int[] NO_SCATTER = {LEAST, -1, NOBODY, 12, GREATEST};

    private static int wrong = 0;
    private static int cases = 0;
    private static String promise = "";

    private static final Consumer<EvenScatter> AS_IT_IS = x -> { };

    /** Twelve scatters: no room for another. */
    private static final Consumer<EvenScatter> FULL = x -> {
        for (int s = NOBODY; s < 12; s++) {
            due("filling up", x.grid(1, 1), s);
        }
    };

    private static void due(String call, long got, long want) {
        if (got != want) {
            wrong++;
            System.out.println(promise + ": " + call + " answered " + got + ", due is " + want);
        }
    }

    public static void main(String[] args) {
        makers();
        changers();
        turns();
        tray();
        shapes();
        grades();
        corners();
        waves();
        sums();
        nothingIsRefused();
        System.out.println(wrong == 0 ? cases + " refusals hold" : wrong + " answers are not as due");
        if (wrong != 0) {
            System.exit(1);
        }
    }

    /** Scatters of each kind, with nothing in them, in the tray or among the refusals left at 0. */
    private static EvenScatter scene() {
        EvenScatter x = new EvenScatter();
        x.table(2, 2);
        x.row(TABLE, 0, 0, 1);
        x.row(TABLE, 0, 1, 2);
        x.row(TABLE, 1, 0, 2);
        x.row(TABLE, 1, 1, 3);
        x.ladder(2);
        x.direction(LADDER, 3, 1L);
        x.turned(LADDER);
        x.mask(TURNED, 0, 1);
        x.mask(TURNED, 1, 2);
        x.grid(5, 2);
        x.step(GRID, 0, 1);
        x.step(GRID, 1, 2);
        x.lots(2, 2, 7L);
        x.table(6, 4);
        x.turned(WIDE);
        x.ladder(0);
        x.skip(ENDED, 1000000);
        x.ladder(1);
        for (int j = 1; j < 6; j++) {
            x.direction(FULL_LADDER, 3, 1L);
        }
        for (int j = 0; j < 6; j++) {
            x.mask(STILL, j, 8);
            x.side(j, 2 + j, 9 + j);
            x.mark(j, j % 2);
        }
        x.next(TABLE);
        x.next(GRID);
        x.next(GRID);
        // One refusal of each number, so that none stands at 0.
        x.turned(NOBODY);
        x.turned(GRID);
        x.mask(TURNED, 0, 4);
        x.skip(TABLE, -1);
        x.skip(TABLE, 1000001);
        return x;
    }

    private static int[] refusals(EvenScatter x) {
        int[] all = new int[6];
        for (int i = 0; i < 6; i++) {
            all[i] = x.status(11 + i);
        }
        return all;
    }

    /** All that can be seen of the object but its refusals; it is spent after it. */
    private static List<Long> look(EvenScatter x) {
        List<Long> seen = new ArrayList<>();
        int scatters = x.status(0);
        seen.add((long) scatters);
        seen.add((long) x.status(1));
        for (int s = 0; s < scatters; s++) {
            for (int what = 0; what < 5; what++) {
                seen.add((long) x.scatter(s, what));
            }
            lookAtParts(x, s, seen);
        }
        lookAtTray(x, seen);
        for (int j = 0; j < 2; j++) {
            seen.add((long) x.row(TABLE, j, 0, 0));
            seen.add((long) x.row(TABLE, j, 1, 0));
            seen.add((long) x.mask(TURNED, j, 0));
            seen.add((long) x.step(GRID, j, 0));
        }
        for (int s = 0; s < scatters; s++) {
            seen.add((long) x.next(s));
        }
        for (int j = 0; j < 6; j++) {
            seen.add((long) x.mark(j, 0));
        }
        return seen;
    }

    private static void lookAtParts(EvenScatter x, int s, List<Long> seen) {
        int points = Math.min(4, x.scatter(s, 2));
        int directions = x.scatter(s, 1);
        for (int n = 0; n < points; n++) {
            for (int j = 0; j < directions; j++) {
                seen.add((long) x.part(s, n, j));
            }
        }
    }

    /** All points of STILL are at its MASKS: moved to each side's ends they are in or out. */
    private static void lookAtTray(EvenScatter x, List<Long> seen) {
        for (int j = 0; j < 6; j++) {
            for (int at : new int[] {1 + j, 2 + j, 8 + j, 9 + j}) {
                x.mask(STILL, j, at);
                seen.add((long) x.count(STILL));
            }
            x.mask(STILL, j, 8);
        }
    }

    /** The call is refused: as an int, or told by a long. */
    private static void no(String call, Consumer<EvenScatter> before, ToLongFunction<EvenScatter> asked,
            int refusal, boolean isLong) {
        cases++;
        EvenScatter x = scene();
        EvenScatter twin = scene();
        before.accept(x);
        before.accept(twin);
        int[] due = refusals(x);
        due(call, asked.applyAsLong(x), isLong ? -1000 - refusal : refusal);
        due[-refusal - 1]++;
        dueAlike(call, x, twin, due);
    }

    /** The call is answered, and changes nothing at all. */
    private static void quiet(String call, Consumer<EvenScatter> before, ToLongFunction<EvenScatter> asked,
            long want) {
        cases++;
        EvenScatter x = scene();
        EvenScatter twin = scene();
        before.accept(x);
        before.accept(twin);
        int[] due = refusals(x);
        due(call, asked.applyAsLong(x), want);
        dueAlike(call, x, twin, due);
    }

    private static void dueAlike(String call, EvenScatter x, EvenScatter twin, int[] refusals) {
        int[] got = refusals(x);
        for (int i = 0; i < 6; i++) {
            due("after " + call + ": status(" + (11 + i) + ")", got[i], refusals[i]);
        }
        List<Long> of = look(x);
        List<Long> ofTwin = look(twin);
        if (!of.equals(ofTwin)) {
            wrong++;
            System.out.println(promise + ": " + call + " changed what is seen, from " + ofTwin + " to " + of);
        }
    }

    private static void no(String call, ToLongFunction<EvenScatter> asked, int refusal) {
        no(call, AS_IT_IS, asked, refusal, false);
    }

    private static void noLong(String call, ToLongFunction<EvenScatter> asked, int refusal) {
        no(call, AS_IT_IS, asked, refusal, true);
    }

    private static void noRoom(String call, ToLongFunction<EvenScatter> asked, int refusal) {
        no(call + " with 12 SCATTERS", FULL, asked, refusal, false);
    }

    /** MARKS of the directions from 0 on; the others are 0. */
    private static Consumer<EvenScatter> marks(int... marks) {
        return x -> {
            for (int j = 0; j < 6; j++) {
                x.mark(j, j < marks.length ? marks[j] : 0);
            }
        };
    }

    private static Consumer<EvenScatter> highs(int... highs) {
        return x -> {
            for (int j = 0; j < highs.length; j++) {
                x.side(j, 0, highs[j]);
            }
        };
    }

    private static void makers() {
        promise = "promise 2";
        for (int low : new int[] {0, -1, LEAST}) {
            no("table, directions " + low, x -> x.table(low, 1), -4);
            no("table, directions " + low + ", power above", x -> x.table(low, 9), -4);
            noRoom("table, directions " + low, x -> x.table(low, 1), -4);
        }
        for (int low : new int[] {-1, LEAST}) {
            no("table, power " + low, x -> x.table(1, low), -4);
            no("table, power " + low + ", directions above", x -> x.table(7, low), -4);
            noRoom("table, power " + low, x -> x.table(1, low), -4);
        }
        no("table, directions 7", x -> x.table(7, 0), -6);
        no("table, directions greatest", x -> x.table(GREATEST, 8), -6);
        no("table, power 9", x -> x.table(1, 9), -6);
        no("table, power greatest", x -> x.table(6, GREATEST), -6);
        noRoom("table", x -> x.table(1, 0), -6);
        promise = "promise 4";
        no("ladder(-1)", x -> x.ladder(-1), -4);
        no("ladder(LEAST)", x -> x.ladder(LEAST), -4);
        no("ladder(9)", x -> x.ladder(9), -6);
        no("ladder(GREATEST)", x -> x.ladder(GREATEST), -6);
        noRoom("ladder(0)", x -> x.ladder(0), -6);
        noRoom("ladder(-1)", x -> x.ladder(-1), -4);
        promise = "promise 6";
        for (int s : NO_SCATTER) {
            no("turned(" + s + ")", x -> x.turned(s), -1);
        }
        no("turned of a GRID", x -> x.turned(GRID), -2);
        no("turned of LOTS", x -> x.turned(LOTS), -2);
        for (int s : new int[] {TABLE, LADDER, TURNED}) {
            noRoom("turned(" + s + ")", x -> x.turned(s), -6);
        }
        noRoom("turned of a GRID", x -> x.turned(GRID), -2);
        noRoom("turned of LOTS", x -> x.turned(LOTS), -2);
        noRoom("turned of nobody", x -> x.turned(12), -1);
        gridsAndLots();
    }

    private static void gridsAndLots() {
        promise = "promise 8";
        for (int low : new int[] {0, -1, LEAST}) {
            no("grid, count " + low, x -> x.grid(low, 1), -4);
            no("grid, directions " + low, x -> x.grid(1, low), -4);
            no("grid, count " + low + ", directions above", x -> x.grid(low, 7), -4);
            no("grid, directions " + low + ", count above", x -> x.grid(257, low), -4);
            noRoom("grid, count " + low, x -> x.grid(low, 1), -4);
            noRoom("grid, directions " + low, x -> x.grid(1, low), -4);
        }
        no("grid, count 257", x -> x.grid(257, 1), -6);
        no("grid, count greatest", x -> x.grid(GREATEST, 6), -6);
        no("grid, directions 7", x -> x.grid(1, 7), -6);
        no("grid, directions greatest", x -> x.grid(256, GREATEST), -6);
        noRoom("grid", x -> x.grid(1, 1), -6);
        promise = "promise 10";
        no("lots, directions 0", x -> x.lots(0, 0, 1L), -4);
        no("lots, power -1", x -> x.lots(1, -1, 1L), -4);
        no("lots, directions 0, power 9", x -> x.lots(0, 9, 1L), -4);
        no("lots, directions 7, power -1", x -> x.lots(7, -1, 1L), -4);
        no("lots, ends", x -> x.lots(GREATEST, LEAST, Long.MIN_VALUE), -4);
        no("lots, directions 7", x -> x.lots(7, 0, 1L), -6);
        no("lots, power 9", x -> x.lots(1, 9, 1L), -6);
        no("lots, greatest", x -> x.lots(GREATEST, GREATEST, Long.MAX_VALUE), -6);
        noRoom("lots", x -> x.lots(1, 0, 1L), -6);
        noRoom("lots, directions 0", x -> x.lots(0, 0, 1L), -4);
        noRoom("lots, power -1", x -> x.lots(1, -1, 1L), -4);
    }

    private static void changers() {
        promise = "promise 3";
        for (int s : NO_SCATTER) {
            no("row of " + s, x -> x.row(s, 0, 0, 0), -1);
        }
        no("row of nobody, all else wrong too", x -> x.row(NOBODY, 6, -1, 4), -1);
        for (int j : new int[] {LEAST, -1, 2, GREATEST}) {
            no("row, direction " + j, x -> x.row(TABLE, j, 0, 3), -1);
            no("row, direction " + j + ", i and bits", x -> x.row(TABLE, j, 2, 4), -1);
            no("row of a LADDER, direction " + j, x -> x.row(LADDER, j, 0, 0), -1);
        }
        for (int s : new int[] {LADDER, TURNED, GRID, LOTS}) {
            no("row of kind " + s, x -> x.row(s, 0, 0, 0), -2);
            no("row of kind " + s + ", i and bits", x -> x.row(s, 0, -1, -1), -2);
        }
        for (int i : new int[] {LEAST, -1, 2, GREATEST}) {
            no("row, i " + i, x -> x.row(TABLE, 1, i, 0), -3);
        }
        for (int bits : new int[] {LEAST, -1, 4, GREATEST}) {
            no("row, bits " + bits, x -> x.row(TABLE, 1, 1, bits), -3);
        }
        promise = "promise 7";
        for (int s : NO_SCATTER) {
            no("mask of " + s, x -> x.mask(s, 0, 0), -1);
        }
        no("mask of nobody, all else wrong too", x -> x.mask(NOBODY, 6, 4), -1);
        for (int j : new int[] {LEAST, -1, 2, GREATEST}) {
            no("mask, direction " + j, x -> x.mask(TURNED, j, 3), -1);
            no("mask, direction " + j + ", bits", x -> x.mask(TURNED, j, 4), -1);
            no("mask of a TABLE, direction " + j, x -> x.mask(TABLE, j, 0), -1);
        }
        for (int s : new int[] {TABLE, LADDER, GRID, LOTS}) {
            no("mask of kind " + s, x -> x.mask(s, 0, 0), -2);
            no("mask of kind " + s + ", bits", x -> x.mask(s, 1, -1), -2);
        }
        for (int bits : new int[] {LEAST, -1, 4, GREATEST}) {
            no("mask, bits " + bits, x -> x.mask(TURNED, 1, bits), -3);
        }
        steps();
        directions();
    }

    private static void steps() {
        promise = "promise 9";
        for (int s : NO_SCATTER) {
            no("step of " + s, x -> x.step(s, 0, 0), -1);
        }
        no("step of nobody, all else wrong too", x -> x.step(NOBODY, 6, 5), -1);
        for (int j : new int[] {LEAST, -1, 2, GREATEST}) {
            no("step, direction " + j, x -> x.step(GRID, j, 3), -1);
            no("step, direction " + j + ", g", x -> x.step(GRID, j, 5), -1);
            no("step of a TABLE, direction " + j, x -> x.step(TABLE, j, 0), -1);
        }
        for (int s : new int[] {TABLE, LADDER, TURNED, LOTS}) {
            no("step of kind " + s, x -> x.step(s, 0, 0), -2);
            no("step of kind " + s + ", g", x -> x.step(s, 1, -1), -2);
        }
        for (int g : new int[] {LEAST, -1, 5, GREATEST}) {
            no("step, g " + g, x -> x.step(GRID, 1, g), -3);
        }
    }

    private static void directions() {
        promise = "promise 5";
        for (int s : NO_SCATTER) {
            no("direction of " + s, x -> x.direction(s, 3, 1L), -1);
            no("direction of " + s + ", p below", x -> x.direction(s, 2, 0L), -1);
        }
        for (int s : new int[] {TABLE, TURNED, GRID, LOTS}) {
            no("direction of kind " + s, x -> x.direction(s, 3, 1L), -2);
            no("direction of kind " + s + ", p below", x -> x.direction(s, 2, 0L), -2);
            no("direction of kind " + s + ", p above", x -> x.direction(s, 128, 0L), -2);
        }
        for (int p : new int[] {2, 1, 0, -1, LEAST}) {
            no("direction, p " + p, x -> x.direction(LADDER, p, 1L), -4);
            no("direction, p " + p + ", v", x -> x.direction(LADDER, p, 0L), -4);
            no("direction, p " + p + ", 6 there are", x -> x.direction(FULL_LADDER, p, 1L), -4);
        }
        for (int p : new int[] {128, 129, GREATEST}) {
            no("direction, p " + p, x -> x.direction(LADDER, p, 0x010101010101L), -6);
            no("direction, p " + p + ", v", x -> x.direction(LADDER, p, 0L), -6);
        }
        no("direction, 6 there are", x -> x.direction(FULL_LADDER, 3, 1L), -6);
        no("direction, 6 there are, p even", x -> x.direction(FULL_LADDER, 4, 0x0101L), -6);
        no("direction, 6 there are, v even", x -> x.direction(FULL_LADDER, 3, 0L), -6);
        for (int p : new int[] {4, 6, 64, 126}) {
            no("direction, p " + p, x -> x.direction(LADDER, p, 0x010101010101L), -3);
        }
        for (int k = 1; k <= 6; k++) {
            int p = (1 << k) + 1;
            int shift = 8 * (k - 1);
            long others = 0x010101010101L & ~(255L << shift);
            for (long v : new long[] {0, 2, 1L << k, (1L << k) + 1, 254, 255}) {
                no("direction, v(" + k + ") is " + v, x -> x.direction(LADDER, p, others | v << shift), -3);
            }
        }
    }

    private static void turns() {
        promise = "promise 11";
        for (int s : NO_SCATTER) {
            no("scatter(" + s + ", 0)", x -> x.scatter(s, 0), -1);
            no("scatter(" + s + ", 5)", x -> x.scatter(s, 5), -1);
        }
        for (int what : new int[] {LEAST, -1, 5, GREATEST}) {
            no("scatter, what " + what, x -> x.scatter(GRID, what), -2);
        }
        promise = "promise 12";
        for (int s : NO_SCATTER) {
            no("part of " + s, x -> x.part(s, 0, 0), -1);
        }
        for (int n : new int[] {LEAST, -1, 5, GREATEST}) {
            no("part, point " + n, x -> x.part(GRID, n, 0), -1);
        }
        for (int j : new int[] {LEAST, -1, 2, GREATEST}) {
            no("part, direction " + j, x -> x.part(GRID, 0, j), -1);
        }
        promise = "promise 13";
        for (int s : NO_SCATTER) {
            no("next(" + s + ")", x -> x.next(s), -1);
        }
        no("next, TURN 1000000", x -> x.next(ENDED), -6);
        for (int s : new int[] {TABLE, TURNED, GRID, LOTS}) {
            no("next of kind " + s + ", TURN 1000000", x -> x.skip(s, 1000000), x -> x.next(s), -6, false);
        }
        promise = "promise 14";
        for (int s : NO_SCATTER) {
            no("skip(" + s + ", 0)", x -> x.skip(s, 0), -1);
            no("skip(" + s + ", -1)", x -> x.skip(s, -1), -1);
            no("skip(" + s + ", 1000001)", x -> x.skip(s, 1000001), -1);
        }
        no("skip(-1)", x -> x.skip(LOTS, -1), -4);
        no("skip(LEAST)", x -> x.skip(GRID, LEAST), -4);
        no("skip(1000001)", x -> x.skip(LOTS, 1000001), -6);
        no("skip(GREATEST)", x -> x.skip(ENDED, GREATEST), -6);
    }

    private static void tray() {
        for (int j : new int[] {LEAST, -1, 6, GREATEST}) {
            promise = "promise 15";
            no("side(" + j + ")", x -> x.side(j, 16, 0), -1);
            promise = "promise 16";
            no("mark(" + j + ")", x -> x.mark(j, 77), -1);
        }
        for (int s : NO_SCATTER) {
            promise = "promise 17";
            no("count(" + s + ")", x -> x.count(s), -1);
            promise = "promise 18";
            no("back(" + s + ")", x -> x.back(s), -1);
        }
    }

    private static void shapes() {
        for (int s : NO_SCATTER) {
            refusedShape("of " + s, AS_IT_IS, s, -1);
            refusedShape("of " + s + ", a MARK", marks(-1), s, -1);
        }
        refusedShape("of a GRID", marks(0), GRID, -2);
        refusedShape("of a GRID, a MARK", marks(-1), GRID, -2);
        refusedShape("of a GRID, sum 17", marks(16, 1), GRID, -2);
        for (int s : new int[] {TABLE, LADDER, TURNED, LOTS}) {
            for (int mark : new int[] {LEAST, -1, 3, GREATEST}) {
                refusedShape("of kind " + s + ", MARK 0 is " + mark, marks(mark, 0), s, -3);
                refusedShape("of kind " + s + ", MARK 1 is " + mark, marks(0, mark), s, -3);
            }
        }
        refusedShape("MARKS that go round to 0", marks(GREATEST, GREATEST, 2), WIDE, -3);
        refusedShape("sum 17", marks(4, 4, 4, 4, 1), WIDE, -6);
        refusedShape("sum 24", marks(4, 4, 4, 4, 4, 4), WIDE, -6);
        refusedShape("sum 17, and a MARK above", marks(5, 4, 4, 4), WIDE, -3);
        refusedShape("sum 17, and a last MARK below", marks(4, 4, 4, 4, 2, -1), WIDE, -3);
    }

    /** even() tells the refusal; why() tells none and counts none. */
    private static void refusedShape(String how, Consumer<EvenScatter> before, int s, int refusal) {
        promise = "promise 19";
        no("even " + how, before, x -> x.even(s), refusal, false);
        promise = "promise 20";
        quiet("why " + how, before, x -> x.why(s), -9);
    }

    private static void grades() {
        promise = "promise 21";
        for (int s : NO_SCATTER) {
            no("grade(" + s + ")", x -> x.grade(s), -1);
        }
        no("grade of a GRID", x -> x.grade(GRID), -2);
        no("grade of LOTS", x -> x.grade(LOTS), -2);
        promise = "promise 22";
        for (int s : NO_SCATTER) {
            no("pair of " + s, x -> x.pair(s, 0, 1), -1);
        }
        for (int j : new int[] {LEAST, -1, 2, GREATEST}) {
            no("pair(" + j + ", 0)", x -> x.pair(TABLE, j, 0), -1);
            no("pair(0, " + j + ")", x -> x.pair(TABLE, 0, j), -1);
            no("pair of a GRID, (" + j + ", 0)", x -> x.pair(GRID, j, 0), -1);
            no("pair of LOTS, (1, " + j + ")", x -> x.pair(LOTS, 1, j), -1);
        }
        for (int j = 0; j < 2; j++) {
            int one = j;
            no("pair of one and the same", x -> x.pair(TURNED, one, one), -1);
            no("pair of one and the same of a GRID", x -> x.pair(GRID, one, one), -1);
        }
        no("pair of a GRID", x -> x.pair(GRID, 0, 1), -2);
        no("pair of LOTS", x -> x.pair(LOTS, 1, 0), -2);
    }

    private static void corners() {
        int[] noWhat = {LEAST, -1, 2, GREATEST};
        promise = "promise 23";
        for (int s : NO_SCATTER) {
            noLong("gap of " + s, x -> x.gap(s, false, 0), -1);
            noLong("gap of " + s + ", what", x -> x.gap(s, true, 2), -1);
        }
        for (int what : noWhat) {
            no("gap, what " + what, highs(1, 1), x -> x.gap(GRID, true, what), -2, true);
            no("gap, what " + what + ", a HIGH", highs(1, 6), x -> x.gap(GRID, false, what), -2, true);
        }
        for (int high : new int[] {LEAST, -1, 6, GREATEST}) {
            no("gap, HIGH 0 is " + high, highs(high, 5), x -> x.gap(GRID, false, 0), -3, true);
            no("gap, HIGH 1 is " + high, highs(5, high), x -> x.gap(GRID, true, 1), -3, true);
        }
        promise = "promise 24";
        for (int s : NO_SCATTER) {
            noLong("worst of " + s, x -> x.worst(s, 0), -1);
            noLong("worst of " + s + ", what", x -> x.worst(s, -1), -1);
        }
        for (int what : new int[] {LEAST, -1, 5, 8, GREATEST}) {
            noLong("worst, what " + what, x -> x.worst(GRID, what), -2);
        }
        noLong("worst, four, what", x -> x.worst(WIDE, 9), -2);
        noLong("worst, six", x -> x.worst(WIDE, 8), -6);
        no("worst, four", x -> x.grid(1, 4), x -> x.worst(NOBODY, 0), -6, true);
        no("worst, 65", x -> x.grid(65, 1), x -> x.worst(NOBODY, 3), -6, true);
        no("worst, 65 of two", x -> x.grid(65, 2), x -> x.worst(NOBODY, 4), -6, true);
        no("worst, 65, what", x -> x.grid(65, 1), x -> x.worst(NOBODY, 4), -2, true);
        no("worst, 17 of three", x -> x.grid(17, 3), x -> x.worst(NOBODY, 5), -6, true);
        no("worst, 17 of three, what", x -> x.grid(17, 3), x -> x.worst(NOBODY, 6), -2, true);
        promise = "promise 25";
        for (int s : NO_SCATTER) {
            noLong("square of " + s, x -> x.square(s, 0), -1);
            noLong("square of " + s + ", what", x -> x.square(s, 2), -1);
        }
        for (int what : noWhat) {
            noLong("square, what " + what, x -> x.square(GRID, what), -2);
            noLong("square, six, what " + what, x -> x.square(WIDE, what), -2);
        }
        noLong("square, six", x -> x.square(WIDE, 0), -6);
        no("square, four", x -> x.grid(1, 4), x -> x.square(NOBODY, 1), -6, true);
        no("square, 65", x -> x.grid(65, 1), x -> x.square(NOBODY, 0), -6, true);
    }

    private static void waves() {
        promise = "promise 26";
        for (int s : NO_SCATTER) {
            noLong("wave of " + s, x -> x.wave(s), -1);
        }
        noLong("wave of a GRID", x -> x.wave(GRID), -2);
        no("wave of a GRID, a MARK", marks(-1), x -> x.wave(GRID), -2, true);
        for (int s : new int[] {TABLE, LADDER, TURNED, LOTS}) {
            for (int mark : new int[] {LEAST, -1, 4, GREATEST}) {
                no("wave, MARK 0 is " + mark, marks(mark, 0), x -> x.wave(s), -3, true);
                no("wave, MARK 1 is " + mark, marks(0, mark), x -> x.wave(s), -3, true);
            }
        }
        promise = "promise 27";
        for (int s : NO_SCATTER) {
            noLong("waves of " + s, x -> x.waves(s, 1, 0), -1);
            noLong("waves of " + s + ", w and i", x -> x.waves(s, -1, -1), -1);
        }
        noLong("waves of a GRID", x -> x.waves(GRID, 1, 0), -2);
        noLong("waves of a GRID, w", x -> x.waves(GRID, -1, 0), -2);
        noLong("waves of a GRID, i", x -> x.waves(GRID, 1, -1), -2);
        for (int low : new int[] {-1, LEAST}) {
            noLong("waves, w " + low, x -> x.waves(TABLE, low, 0), -4);
            noLong("waves, i " + low, x -> x.waves(TABLE, 0, low), -4);
            noLong("waves, 24 bits, w " + low, x -> x.waves(WIDE, low, 0), -4);
            noLong("waves, 24 bits, i " + low, x -> x.waves(WIDE, 0, low), -4);
        }
        noLong("waves, 24 bits", x -> x.waves(WIDE, 0, 0), -6);
        no("waves, 14 bits", x -> x.table(2, 7), x -> x.waves(NOBODY, 1, 0), -6, true);
        no("waves, 15 bits of LOTS", x -> x.lots(5, 3, 1L), x -> x.waves(NOBODY, 1, 0), -6, true);
    }

    private static void sums() {
        promise = "promise 28";
        for (int s : NO_SCATTER) {
            noLong("sum of " + s, x -> x.sum(s, 0), -1);
            no("sum of " + s + ", what and a MARK", marks(-1), x -> x.sum(s, 3), -1, true);
        }
        for (int what : new int[] {LEAST, -1, 3, GREATEST}) {
            noLong("sum, what " + what, x -> x.sum(GRID, what), -2);
            no("sum, what " + what + ", a MARK", marks(-1), x -> x.sum(GRID, what), -2, true);
        }
        for (int what = 0; what < 3; what++) {
            int asked = what;
            for (int mark : new int[] {LEAST, -1, 6, GREATEST}) {
                no("sum, MARK 0 is " + mark, marks(mark, 0), x -> x.sum(TABLE, asked), -3, true);
                no("sum, MARK 1 is " + mark, marks(0, mark), x -> x.sum(GRID, asked), -3, true);
            }
            no("sum, MARKS of sum 6", marks(5, 1), x -> x.sum(LOTS, asked), -3, true);
            no("sum, a MARK below 0, sum 5", marks(6, -1), x -> x.sum(LOTS, asked), -3, true);
            no("sum, MARKS 1 each", marks(1, 1, 1, 1, 1, 1), x -> x.sum(STILL, asked), -3, true);
            no("sum, MARKS that go round", marks(GREATEST, GREATEST, 2), x -> x.sum(WIDE, asked), -3, true);
        }
    }

    /** What is no refusal though it answers below 0, and calls that only tell. */
    private static void nothingIsRefused() {
        promise = "promise 29";
        for (int what : new int[] {LEAST, -1, 2, 10, 17, GREATEST}) {
            quiet("status(" + what + ")", AS_IT_IS, x -> x.status(what), -9);
        }
        promise = "promise 11";
        quiet("POWER of a GRID", AS_IT_IS, x -> x.scatter(GRID, 3), -1);
        promise = "promise 18";
        quiet("back, none", marks(9), x -> x.back(TABLE), -9);
        promise = "promise 20";
        quiet("why, EVEN", marks(0), x -> x.why(TABLE), -9);
        promise = "promise 27";
        quiet("waves, none", AS_IT_IS, x -> x.waves(TABLE, 0, 0), -9);
        promise = "promise 16";
        Consumer<EvenScatter> below = x -> x.mark(3, -1);
        quiet("mark, what it was", below, x -> x.mark(3, -1), -1);
        promise = "a call that only tells";
        quiet("part", AS_IT_IS, x -> x.part(GRID, 4, 1), 3);
        quiet("count", highs(5, 5), x -> x.count(GRID), 5);
        quiet("even", marks(1), x -> x.even(TABLE), 1);
        quiet("why", marks(1), x -> x.why(WIDE), 16);
        quiet("grade", AS_IT_IS, x -> x.grade(WIDE), 4);
        quiet("pair", AS_IT_IS, x -> x.pair(WIDE, 5, 4), 4);
        quiet("gap", highs(5, 5), x -> x.gap(GRID, false, 1), 1);
        quiet("worst", AS_IT_IS, x -> x.worst(ENDED, 0), 1);
        quiet("square", AS_IT_IS, x -> x.square(ENDED, 1), 3);
        quiet("wave", marks(0), x -> x.wave(WIDE), 16);
        quiet("waves", AS_IT_IS, x -> x.waves(FULL_LADDER, 6, 0), 3);
        quiet("sum", marks(1), x -> x.sum(GRID, 0), 10);
    }
}
