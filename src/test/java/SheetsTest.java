/** Promises 24 to 29, 34 and 35: sheets, faults, what is told. */
final class SheetsTest {
    private static final int UNKNOWN = TrueLitres.UNKNOWN, OUTSIDE = TrueLitres.OUTSIDE, NONE = TrueLitres.NONE;
    private static final int NULL = 1, CAST = 2, INDEX = 3, SIZE = 4;
    private static final long LOST = TrueLitres.LOST;
    private static final int LEAST = Integer.MIN_VALUE, GREATEST = Integer.MAX_VALUE;

    private SheetsTest() {
    }

    static void run() {
        sheet();
        lose();
        put();
        putCut();
        cell();
        copy();
        copyOverItself();
        refusalsOfCopy();
        watch();
        watchPart();
        refusalsOfWatch();
        fault();
        told();
    }

    private static TrueLitres withSheet(int lane, int... cells) {
        TrueLitres x = new TrueLitres();
        x.sheet(0, lane, cells.length);
        for (int i = 0; i < cells.length; i++) {
            x.put(0, i, cells[i]);
        }
        return x;
    }

    private static void dueFault(TrueLitres x, long got, int fault) {
        Check.due(got, -10 - fault);
        Check.due(x.fault(), fault);
    }

    private static void dueLost(TrueLitres x, long got, int fault) {
        Check.due(got, LOST);
        Check.due(x.fault(), fault);
    }

    /** A refusal, of a call that names FAULTS, has none. */
    private static void dueRefused(TrueLitres x, long got, int refusal) {
        Check.due(got, refusal);
        Check.due(x.fault(), 0);
    }

    private static void sheet() {
        Check.promise(24);
        TrueLitres x = new TrueLitres();
        Check.due(x.sheet(0, 0, 60), 1);
        Check.due(x.sheet(3, 2, 0), 1);
        Check.due(x.sheet(1, 1, 3), 1);
        Check.due(x.cell(0, 59, 0), 0);
        Check.due(x.cell(1, 2, 1), 0);
        dueLost(x, x.cell(1, 3, 1), INDEX);
        dueLost(x, x.cell(3, 0, 2), INDEX);
        // A new row in place of another: of its own length and lane, all 0.
        x.put(1, 0, 5);
        x.put(1, 2, 6);
        Check.due(x.sheet(1, 2, 2), 1);
        Check.due(x.cell(1, 0, 2), 0);
        dueLost(x, x.cell(1, 2, 2), INDEX);
        dueLost(x, x.cell(1, 0, 1), CAST);
        Check.due(x.sheet(1, 2, 3), 1);
        Check.due(x.cell(1, 2, 2), 0);
        x.put(1, 0, 9);
        dueRefused(x, x.sheet(4, 0, 1), UNKNOWN);
        dueRefused(x, x.sheet(-1, 3, -1), UNKNOWN);
        dueRefused(x, x.sheet(1, 3, 1), OUTSIDE);
        dueRefused(x, x.sheet(1, -1, 1), OUTSIDE);
        dueRefused(x, x.sheet(1, 0, 61), OUTSIDE);
        dueRefused(x, x.sheet(1, 0, GREATEST), OUTSIDE);
        dueRefused(x, x.sheet(1, 3, -1), OUTSIDE);
        dueFault(x, x.sheet(1, 0, -1), SIZE);
        dueFault(x, x.sheet(1, 0, LEAST), SIZE);
        Check.due(x.cell(1, 0, 2), 9);
        dueFault(x, x.sheet(2, 0, -1), SIZE);
        dueFault(x, x.put(2, 0, 0), NULL);
    }

    private static void lose() {
        Check.promise(25);
        TrueLitres x = new TrueLitres();
        Check.due(x.lose(0), 0);
        x.sheet(0, 0, 2);
        x.sheet(1, 0, 0);
        Check.due(x.lose(0), 1);
        Check.due(x.lose(0), 0);
        dueFault(x, x.put(0, 0, 1), NULL);
        Check.due(x.lose(1), 1);
        Check.due(x.lose(-1), UNKNOWN);
        Check.due(x.lose(4), UNKNOWN);
        x.sheet(0, 0, 2);
        Check.due(x.cell(0, 0, 0), 0);
    }

    private static void put() {
        Check.promise(26);
        TrueLitres x = new TrueLitres();
        dueFault(x, x.put(0, 0, 1), NULL);
        dueFault(x, x.put(0, -1, 1), NULL);
        x.sheet(0, 2, 3);
        x.sheet(1, 2, 3);
        Check.due(x.put(0, 0, 7), 1);
        Check.due(x.put(0, 2, 9), 1);
        Check.due(x.cell(0, 0, 2), 7);
        Check.due(x.cell(0, 1, 2), 0);
        Check.due(x.cell(0, 2, 2), 9);
        Check.due(x.cell(1, 0, 2), 0);
        dueFault(x, x.put(0, 3, 1), INDEX);
        dueFault(x, x.put(0, -1, 1), INDEX);
        dueFault(x, x.put(0, LEAST, 1), INDEX);
        dueFault(x, x.put(0, GREATEST, 1), INDEX);
        dueRefused(x, x.put(4, 9, 1), UNKNOWN);
        dueRefused(x, x.put(-1, 9, 1), UNKNOWN);
    }

    private static void putCut() {
        Check.promise(26);
        int[] given = {127, 128, -128, -129, 255, 256, 32767, 32768, -32769, 65537, GREATEST, LEAST};
        int[] bytes = {127, -128, -128, 127, -1, 0, -1, 0, -1, 1, -1, 0};
        int[] shorts = {127, 128, -128, -129, 255, 256, 32767, -32768, 32767, 1, -1, 0};
        int[][] due = {bytes, shorts, given};
        for (int lane = 0; lane < 3; lane++) {
            TrueLitres x = withSheet(lane, given);
            for (int i = 0; i < given.length; i++) {
                Check.due(x.cell(0, i, lane), due[lane][i]);
            }
        }
    }

    private static void cell() {
        Check.promise(27);
        TrueLitres x = withSheet(1, 4, 5, 6);
        Check.due(x.cell(0, 0, 1), 4);
        Check.due(x.cell(0, 2, 1), 6);
        Check.due(x.fault(), 0);
        dueLost(x, x.cell(0, 3, 1), INDEX);
        dueLost(x, x.cell(0, -1, 1), INDEX);
        dueLost(x, x.cell(0, 0, 0), CAST);
        dueLost(x, x.cell(0, 0, 2), CAST);
        dueLost(x, x.cell(0, 3, 2), CAST);
        dueLost(x, x.cell(1, 0, 1), NULL);
        dueLost(x, x.cell(1, -1, 0), NULL);
        dueLost(x, x.cell(0, 0, 3), 0);
        x.cell(1, 0, 1);
        dueLost(x, x.cell(0, 0, -1), 0);
        x.cell(1, 0, 1);
        dueLost(x, x.cell(4, 0, 1), 0);
        x.cell(1, 0, 1);
        dueLost(x, x.cell(-1, 0, 1), 0);
        x.lose(0);
        dueLost(x, x.cell(0, 0, 0), NULL);
    }

    private static void dueCells(TrueLitres x, int k, int lane, int... cells) {
        for (int i = 0; i < cells.length; i++) {
            Check.due(x.cell(k, i, lane), cells[i]);
        }
        dueLost(x, x.cell(k, cells.length, lane), INDEX);
    }

    private static void copy() {
        Check.promise(28);
        TrueLitres x = withSheet(2, 1, 2, 3, 4);
        x.sheet(1, 2, 3);
        Check.due(x.copy(0, 1, 1, 0, 2), 2);
        Check.due(x.fault(), 0);
        dueCells(x, 1, 2, 2, 3, 0);
        dueCells(x, 0, 2, 1, 2, 3, 4);
        Check.due(x.copy(1, 0, 0, 3, 1), 1);
        dueCells(x, 0, 2, 1, 2, 3, 2);
        Check.due(x.copy(0, 4, 1, 3, 0), 0);
        Check.due(x.copy(0, 0, 1, 0, 3), 3);
        dueCells(x, 1, 2, 1, 2, 3);
        // What was copied stands for itself.
        x.put(0, 0, 9);
        Check.due(x.cell(1, 0, 2), 1);
    }

    private static void copyOverItself() {
        Check.promise(28);
        TrueLitres x = withSheet(0, 1, 2, 3, 4, 5);
        Check.due(x.copy(0, 0, 0, 1, 4), 4);
        dueCells(x, 0, 0, 1, 1, 2, 3, 4);
        Check.due(x.copy(0, 2, 0, 0, 3), 3);
        dueCells(x, 0, 0, 2, 3, 4, 3, 4);
        Check.due(x.copy(0, 0, 0, 0, 5), 5);
        dueCells(x, 0, 0, 2, 3, 4, 3, 4);
    }

    private static void refusalsOfCopy() {
        Check.promise(28);
        TrueLitres x = withSheet(2, 1, 2, 3, 4);
        x.sheet(1, 2, 3);
        x.sheet(2, 1, 9);
        dueFault(x, x.copy(0, -1, 1, 0, 1), INDEX);
        dueFault(x, x.copy(0, 0, 1, -1, 1), INDEX);
        dueFault(x, x.copy(0, 0, 1, 0, -1), INDEX);
        dueFault(x, x.copy(0, 2, 1, 0, 3), INDEX);
        dueFault(x, x.copy(0, 0, 1, 1, 3), INDEX);
        dueFault(x, x.copy(0, 0, 1, 0, 4), INDEX);
        dueFault(x, x.copy(0, 5, 1, 0, 0), INDEX);
        dueFault(x, x.copy(0, 0, 1, 4, 0), INDEX);
        dueFault(x, x.copy(0, GREATEST, 1, 0, 1), INDEX);
        dueFault(x, x.copy(0, 1, 1, 1, GREATEST), INDEX);
        dueFault(x, x.copy(0, LEAST, 1, LEAST, LEAST), INDEX);
        dueCells(x, 1, 2, 0, 0, 0);
        dueFault(x, x.copy(0, 0, 2, 0, 1), CAST);
        dueFault(x, x.copy(2, -1, 0, 0, -1), CAST);
        dueFault(x, x.copy(3, 0, 0, 0, 0), NULL);
        dueFault(x, x.copy(0, -1, 3, 0, -1), NULL);
        dueFault(x, x.copy(3, 0, 3, 0, 0), NULL);
        dueRefused(x, x.copy(4, 0, 0, 0, 0), UNKNOWN);
        dueFault(x, x.copy(3, 0, 0, 0, 0), NULL);
        dueRefused(x, x.copy(0, 0, 4, 0, 0), UNKNOWN);
        dueRefused(x, x.copy(3, 0, -1, 0, 0), UNKNOWN);
        dueRefused(x, x.copy(-1, -1, 3, 0, 0), UNKNOWN);
    }

    private static void dueWatched(int[] cells, int pulses, int lost, int untrue) {
        for (int lane = 0; lane < 3; lane++) {
            TrueLitres x = withSheet(lane, cells);
            Check.due(x.watch(0, lane, 0, cells.length, 0), pulses);
            Check.due(x.watch(0, lane, 0, cells.length, 1), lost);
            Check.due(x.watch(0, lane, 0, cells.length, 2), untrue);
            Check.due(x.watch(0, lane, 0, cells.length, 3), pulses + lost - untrue);
            Check.due(x.fault(), 0);
        }
    }

    private static void watch() {
        Check.promise(29);
        dueWatched(new int[] {}, 0, 0, 0);
        dueWatched(new int[] {0, 3, -1, 12}, 0, 0, 0);
        dueWatched(new int[] {1}, 1, 0, 0);
        dueWatched(new int[] {2}, 1, 0, 0);
        dueWatched(new int[] {1, 2, 1, 2}, 4, 0, 0);
        dueWatched(new int[] {2, 1, 2, 1}, 4, 0, 0);
        dueWatched(new int[] {1, 1}, 2, 1, 0);
        dueWatched(new int[] {2, 2}, 2, 1, 0);
        dueWatched(new int[] {1, 1, 1}, 3, 1, 1);
        dueWatched(new int[] {1, 1, 1, 1}, 4, 2, 1);
        dueWatched(new int[] {1, 1, 1, 1, 1}, 5, 2, 2);
        // A pulse that is no slip ends the slips behind one another.
        dueWatched(new int[] {1, 1, 2, 2, 1, 1}, 6, 3, 0);
        dueWatched(new int[] {1, 1, 2, 2, 2, 1, 2, 2}, 8, 3, 1);
        // What is no pulse ends nothing: neither a slip nor the slips behind one another.
        dueWatched(new int[] {1, 0, 2, 7, 1}, 3, 0, 0);
        dueWatched(new int[] {1, 0, 1}, 2, 1, 0);
        dueWatched(new int[] {0, 2, 0, 2, 3, 0, 2, 0}, 3, 1, 1);
        dueWatched(new int[] {1, 1, 0, 1, 0, 1}, 4, 2, 1);
    }

    private static void watchPart() {
        Check.promise(29);
        TrueLitres x = withSheet(0, 1, 1, 1, 2, 2, 257, 258);
        // The cell ahead of the part does not count.
        Check.due(x.watch(0, 0, 1, 2, 1), 1);
        Check.due(x.watch(0, 0, 1, 2, 2), 0);
        Check.due(x.watch(0, 0, 2, 2, 1), 0);
        Check.due(x.watch(0, 0, 0, 3, 2), 1);
        Check.due(x.watch(0, 0, 0, 1, 0), 1);
        Check.due(x.watch(0, 0, 6, 1, 0), 1);
        Check.due(x.watch(0, 0, 7, 0, 0), 0);
        // What was cut to a byte is what it is cut to.
        Check.due(x.watch(0, 0, 5, 2, 0), 2);
        Check.due(withSheet(1, 257, 65537).watch(0, 1, 0, 2, 0), 1);
        Check.due(withSheet(2, 257, 65537).watch(0, 2, 0, 2, 0), 0);
    }

    private static void refusalsOfWatch() {
        Check.promise(29);
        TrueLitres x = withSheet(1, 1, 2, 1);
        dueFault(x, x.watch(0, 1, 0, 4, 0), INDEX);
        dueFault(x, x.watch(0, 1, 3, 1, 0), INDEX);
        dueFault(x, x.watch(0, 1, 4, 0, 0), INDEX);
        dueFault(x, x.watch(0, 1, -1, 1, 0), INDEX);
        dueFault(x, x.watch(0, 1, -1, 0, 0), INDEX);
        dueFault(x, x.watch(0, 1, 1, GREATEST, 0), INDEX);
        dueFault(x, x.watch(0, 1, GREATEST, GREATEST, 0), INDEX);
        dueFault(x, x.watch(0, 1, 0, -1, 0), SIZE);
        dueFault(x, x.watch(0, 1, -1, -1, 0), SIZE);
        dueFault(x, x.watch(0, 1, 9, LEAST, 0), SIZE);
        dueFault(x, x.watch(1, 1, -1, -1, 0), NULL);
        dueFault(x, x.watch(1, 2, 0, 0, 0), NULL);
        dueFault(x, x.watch(0, 0, 0, 1, 0), CAST);
        dueFault(x, x.watch(0, 2, -1, -1, 0), CAST);
        dueRefused(x, x.watch(0, 3, 0, 1, 0), OUTSIDE);
        dueFault(x, x.watch(0, 0, 0, 1, 0), CAST);
        dueRefused(x, x.watch(0, -1, 0, 1, 0), OUTSIDE);
        dueRefused(x, x.watch(0, 1, 0, 1, 4), OUTSIDE);
        dueRefused(x, x.watch(0, 1, 0, 1, -1), OUTSIDE);
        dueRefused(x, x.watch(1, 1, 0, -1, 4), OUTSIDE);
        dueRefused(x, x.watch(4, 3, 0, 1, 4), UNKNOWN);
        dueRefused(x, x.watch(-1, 1, 0, 1, 0), UNKNOWN);
    }

    private static void fault() {
        Check.promise(34);
        TrueLitres x = new TrueLitres();
        Check.due(x.fault(), 0);
        dueFault(x, x.put(0, 0, 0), NULL);
        // Calls that name none leave it.
        x.meter(1);
        x.meter(0);
        x.ticket(0, 5, 0, 1);
        x.at(9, 9, 9);
        x.lose(0);
        x.lose(9);
        x.tell(0);
        x.tell(9);
        x.worth(0);
        x.trace();
        x.told(99);
        x.balance(9, 0, 0, 0);
        Check.due(x.fault(), NULL);
        Check.due(x.fault(), NULL);
        Check.due(x.sheet(0, 0, 1), 1);
        Check.due(x.fault(), 0);
        dueFault(x, x.as(0, 2), CAST);
        Check.due(x.put(0, 0, 1), 1);
        Check.due(x.fault(), 0);
        dueFault(x, x.put(0, 1, 1), INDEX);
        Check.due(x.cell(0, 0, 0), 1);
        Check.due(x.fault(), 0);
        dueFault(x, x.sheet(0, 0, -1), SIZE);
        Check.due(x.copy(0, 0, 0, 0, 1), 1);
        Check.due(x.fault(), 0);
        dueFault(x, x.put(0, 1, 1), INDEX);
        Check.due(x.watch(0, 0, 0, 1, 0), 1);
        Check.due(x.fault(), 0);
        dueFault(x, x.put(0, 1, 1), INDEX);
        Check.due(x.as(0, 0), 1);
        Check.due(x.fault(), 0);
        dueFault(x, x.put(0, 1, 1), INDEX);
        dueRefused(x, x.sheet(0, 0, 61), OUTSIDE);
        dueFault(x, x.put(0, 1, 1), INDEX);
        dueRefused(x, x.put(4, 0, 0), UNKNOWN);
        dueFault(x, x.put(0, 1, 1), INDEX);
        dueRefused(x, x.as(9, 0), UNKNOWN);
    }

    private static void told() {
        Check.promise(35);
        TrueLitres x = new TrueLitres();
        Check.due(x.told(10), OUTSIDE);
        x.meter(1);
        x.meter(1);
        x.factor(1, 1, 0, 100000);
        x.factor(1, 1, 0, 101000);
        x.ticket(0, 9, 0, 1);
        x.ticket(0, 9, 0, 1);
        x.ticket(0, 9, 0, 1);
        x.right(1, 5);
        Check.due(x.told(3), NONE);
        x.shut(8);
        Check.due(x.told(0), 2);
        Check.due(x.told(1), 4);
        Check.due(x.told(2), 3);
        Check.due(x.told(3), 8);
        Check.due(x.told(10), 0);
        Check.due(x.told(11), 2);
        Check.due(x.told(12), OUTSIDE);
        Check.due(x.told(4), OUTSIDE);
        Check.due(x.told(9), OUTSIDE);
        Check.due(x.told(16), OUTSIDE);
        Check.due(x.told(-1), OUTSIDE);
        Check.due(x.told(LEAST), OUTSIDE);
        Check.due(x.told(GREATEST), OUTSIDE);
    }
}
