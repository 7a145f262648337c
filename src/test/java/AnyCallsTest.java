/** Rule 7 of LANGUAGE.md: whatever is called, with whatever numbers, nothing is thrown. */
final class AnyCallsTest {
    private static final int OBJECTS = 300, CALLS = 512;
    private static final int[] NUMBERS = {
        0, 0, 1, 1, 2, 3, 4, 5, 6, 10, 11, 12, 39, 40, 59, 60, 61, 100, 200, 400, 401, 1000, 10000, 95000, 100000,
        105000, 1000000, 10000000, -1, -2, -9, Integer.MIN_VALUE, Integer.MIN_VALUE + 1, Integer.MAX_VALUE
    };

    private AnyCallsTest() {
    }

    static void run() {
        Check.promise(0);
        for (int i = 0; i < OBJECTS; i++) {
            TrueLitres x = new TrueLitres();
            for (int call = 0; call < CALLS; call++) {
                callAny(x);
            }
            Check.dueTrue(x.told(0) >= 0 && x.told(0) <= 6 && x.told(2) <= x.told(1), "it tells what it has");
        }
    }

    private static int any() {
        return NUMBERS[Draw.below(NUMBERS.length)];
    }

    private static int few() {
        return Draw.below(8) == 0 ? any() : Draw.below(4);
    }

    private static void callAny(TrueLitres x) {
        int which = Draw.below(40);
        if (which < 12) {
            callOfMeters(x, which);
        } else if (which < 20) {
            callOfTickets(x, which - 12);
        } else if (which < 26) {
            callOfLines(x, which - 20);
        } else {
            callOfSheets(x, which - 26);
        }
    }

    private static void callOfMeters(TrueLitres x, int which) {
        switch (which) {
            case 0 -> x.meter(any());
            case 1 -> x.factor(few(), 1 + Draw.below(50), any(), 95000 + Draw.below(10001));
            case 2 -> x.at(few(), Draw.below(60), any());
            case 3 -> x.points(few(), any());
            case 4 -> x.point(few(), any(), few(), few());
            case 5 -> x.proof(few(), 1 + Draw.below(50), 1000 + Draw.below(100000));
            case 6 -> x.proof(any(), any(), any());
            case 7 -> x.run(any(), any(), any());
            case 8, 9 -> x.run(100, 1000, 1000);
            case 10 -> x.proving(few());
            default -> x.accept(any());
        }
    }

    private static void callOfTickets(TrueLitres x, int which) {
        switch (which) {
            case 0 -> x.ticket(few(), Draw.below(401), Draw.below(10000001), 1 + Draw.below(50));
            case 1 -> x.ticket(any(), any(), any(), any());
            case 2 -> x.right(Draw.below(41) - 1, any());
            case 3 -> x.remake(few(), Draw.below(9), any());
            case 4 -> x.ticketed(any(), Draw.below(10) - 1);
            case 5 -> x.volume(any());
            case 6 -> x.sum(few(), any(), any());
            default -> x.shut(Draw.below(9) == 0 ? any() : -1);
        }
    }

    private static void callOfLines(TrueLitres x, int which) {
        switch (which) {
            case 0 -> x.line(few(), few(), Draw.below(4) - 2);
            case 1 -> x.lined(any(), any());
            case 2 -> x.end(few(), any());
            case 3 -> x.balance(few(), any(), any(), few());
            case 4 -> x.beyond(any(), any());
            default -> x.explains(few(), 0, any());
        }
    }

    private static void callOfSheets(TrueLitres x, int which) {
        switch (which) {
            case 0 -> x.sheet(few(), few(), any());
            case 1 -> x.lose(few());
            case 2, 3 -> x.put(few(), any(), any());
            case 4 -> x.cell(few(), any(), few());
            case 5, 6 -> x.copy(few(), any(), few(), any(), any());
            case 7, 8 -> x.watch(few(), few(), any(), any(), few());
            case 9 -> x.tell(any());
            case 10 -> x.worth(any());
            case 11 -> x.as(any(), few());
            case 12 -> x.told(any());
            default -> x.fault();
        }
    }
}
