/** Promises 11 to 17: tickets, and the days that are shut. */
final class TicketsTest {
    private static final int UNKNOWN = TrueLitres.UNKNOWN, OUTSIDE = TrueLitres.OUTSIDE;
    private static final int STATE = TrueLitres.STATE, FULL = TrueLitres.FULL, NONE = TrueLitres.NONE;
    private static final long LOST = TrueLitres.LOST;

    private TicketsTest() {
    }

    static void run() {
        ticket();
        refusalsOfTicket();
        right();
        refusalsOfRight();
        remake();
        remakeRange();
        remakeFull();
        refusalsOfRemake();
        ticketed();
        volume();
        sum();
        shut();
    }

    /** Meters of 1000 pulses for 1000 litres: a pulse is a litre. */
    private static TrueLitres withMeters(int count) {
        TrueLitres x = new TrueLitres();
        for (int m = 0; m < count; m++) {
            x.meter(1000);
        }
        return x;
    }

    private static long[] about(TrueLitres x, int t) {
        long[] answers = new long[8];
        for (int what = 0; what < 8; what++) {
            answers[what] = x.ticketed(t, what);
        }
        return answers;
    }

    private static void fill(TrueLitres x, int upTo) {
        for (int t = x.told(1); t < upTo; t++) {
            Check.due(x.ticket(0, 100, 0, 100), t);
        }
    }

    private static void ticket() {
        Check.promise(11);
        TrueLitres x = withMeters(2);
        x.factor(1, 100, 5, 101000);
        x.factor(1, 200, 5, 102000);
        Check.due(x.ticket(0, 0, 0, 1), 0);
        Check.due(x.ticket(1, 400, 10000000, 10000), 1);
        Check.due(x.ticket(1, 5, 7, 150), 2);
        Check.due(x.ticket(1, 4, 8, 150), 3);
        Check.dueEach(about(x, 0), 0, 0, 0, 0, 1, 100000, NONE, NONE);
        Check.dueEach(about(x, 1), 0, 1, 400, 10000000, 10000, 102000, NONE, NONE);
        Check.dueEach(about(x, 2), 0, 1, 5, 7, 150, 101500, NONE, NONE);
        Check.dueEach(about(x, 3), 0, 1, 4, 8, 150, 100000, NONE, NONE);
        // It keeps the factor of then.
        x.factor(1, 150, 0, 95000);
        Check.due(x.ticketed(2, 5), 101500);
        Check.due(x.volume(2), 7105);
    }

    private static void refusalsOfTicket() {
        Check.promise(11);
        TrueLitres x = withMeters(1);
        Check.due(x.ticket(1, 0, 0, 1), UNKNOWN);
        Check.due(x.ticket(-1, -1, -1, 0), UNKNOWN);
        Check.due(x.ticket(0, -1, 0, 1), OUTSIDE);
        Check.due(x.ticket(0, 401, 0, 1), OUTSIDE);
        Check.due(x.ticket(0, 0, -1, 1), OUTSIDE);
        Check.due(x.ticket(0, 0, 10000001, 1), OUTSIDE);
        Check.due(x.ticket(0, 0, 0, 0), OUTSIDE);
        Check.due(x.ticket(0, 0, 0, 10001), OUTSIDE);
        Check.due(x.told(1), 0);
        x.shut(5);
        Check.due(x.ticket(0, 0, 0, 1), STATE);
        Check.due(x.ticket(0, 5, 0, 1), STATE);
        Check.due(x.ticket(0, 5, 0, 0), OUTSIDE);
        Check.due(x.told(1), 0);
        Check.due(x.ticket(0, 6, 0, 1), 0);
        fill(x, 40);
        Check.due(x.ticket(0, 100, 0, 100), FULL);
        Check.due(x.ticket(0, 5, 0, 100), STATE);
        Check.due(x.ticket(0, 401, 0, 100), OUTSIDE);
        Check.due(x.ticket(1, 100, 0, 100), UNKNOWN);
        Check.due(x.told(1), 40);
    }

    private static void right() {
        Check.promise(12);
        TrueLitres x = withMeters(2);
        x.ticket(1, 9, 50, 300);
        x.ticket(0, 9, 50, 300);
        x.factor(1, 300, 9, 103000);
        Check.due(x.right(0, 60), 2);
        Check.dueEach(about(x, 0), 0, 1, 9, 50, 300, 100000, 2, NONE);
        Check.dueEach(about(x, 2), 1, 1, 9, 60, 300, 103000, NONE, 0);
        Check.dueEach(about(x, 1), 0, 0, 9, 50, 300, 100000, NONE, NONE);
        // By the same pulses, and one that is put right itself.
        Check.due(x.right(2, 60), 3);
        Check.dueEach(about(x, 2), 1, 1, 9, 60, 300, 103000, 3, 0);
        Check.dueEach(about(x, 3), 1, 1, 9, 60, 300, 103000, NONE, 2);
        Check.due(x.right(3, 0), 4);
        Check.due(x.right(4, 10000000), 5);
        Check.due(x.told(2), 2);
        // One that is remade is put right as a TICKET that is PUT RIGHT, no REMADE one.
        x.factor(1, 300, 9, 104000);
        Check.due(x.remake(1, 0, 400), 1);
        Check.due(x.ticketed(6, 0), 2);
        Check.due(x.right(6, 3), 7);
        Check.dueEach(about(x, 7), 1, 1, 9, 3, 300, 104000, NONE, 6);
    }

    private static void refusalsOfRight() {
        Check.promise(12);
        TrueLitres x = withMeters(1);
        Check.due(x.right(0, 0), UNKNOWN);
        x.ticket(0, 5, 1, 1);
        x.ticket(0, 6, 1, 1);
        Check.due(x.right(2, 0), UNKNOWN);
        Check.due(x.right(-1, -1), UNKNOWN);
        Check.due(x.right(0, -1), OUTSIDE);
        Check.due(x.right(0, 10000001), OUTSIDE);
        Check.due(x.right(1, 2), 2);
        Check.due(x.right(1, 2), STATE);
        Check.due(x.right(1, -1), OUTSIDE);
        x.shut(5);
        Check.due(x.right(0, 0), STATE);
        Check.due(x.right(0, 10000001), OUTSIDE);
        Check.due(x.right(2, 3), 3);
        fill(x, 40);
        Check.due(x.right(3, 4), FULL);
        Check.due(x.right(1, 4), STATE);
        Check.due(x.right(0, 4), STATE);
        Check.due(x.right(3, -1), OUTSIDE);
        Check.due(x.ticketed(3, 6), NONE);
        Check.due(x.ticketed(0, 6), NONE);
        Check.due(x.told(1), 40);
        TrueLitres last = withMeters(1);
        last.ticket(0, 100, 1, 1);
        for (int t = 1; t < 40; t++) {
            Check.due(last.right(t - 1, t), t);
        }
        Check.due(last.right(39, 0), FULL);
        Check.due(last.told(2), 1);
    }

    private static void remake() {
        Check.promise(13);
        TrueLitres x = withMeters(2);
        x.ticket(0, 10, 11, 100);
        x.ticket(1, 10, 12, 100);
        x.ticket(0, 12, 13, 100);
        x.ticket(0, 11, 14, 100);
        Check.due(x.remake(0, 0, 400), 0);
        x.factor(0, 100, 11, 104000);
        x.factor(1, 100, 0, 104000);
        Check.due(x.right(2, 15), 4);
        x.ticket(0, 13, 16, 100);
        // Of 0 day 10 has the same factor; 2 is replaced; 4 and 5 are by the one of now.
        Check.due(x.remake(0, 0, 400), 1);
        Check.dueEach(about(x, 3), 0, 0, 11, 14, 100, 100000, 6, NONE);
        Check.dueEach(about(x, 6), 2, 0, 11, 14, 100, 104000, NONE, 3);
        Check.due(x.ticketed(0, 6), NONE);
        Check.due(x.ticketed(1, 6), NONE);
        Check.due(x.remake(0, 0, 400), 0);
        // All that are due go by their numbers, also those put right and remade.
        x.factor(0, 100, 0, 95000);
        x.factor(0, 100, 11, 96000);
        Check.due(x.remake(0, 0, 400), 4);
        Check.dueEach(about(x, 7), 2, 0, 10, 11, 100, 95000, NONE, 0);
        Check.dueEach(about(x, 8), 2, 0, 12, 15, 100, 96000, NONE, 4);
        Check.dueEach(about(x, 9), 2, 0, 13, 16, 100, 96000, NONE, 5);
        Check.dueEach(about(x, 10), 2, 0, 11, 14, 100, 96000, NONE, 6);
        Check.due(x.told(1), 11);
        Check.due(x.told(2), 5);
    }

    private static void remakeRange() {
        Check.promise(13);
        TrueLitres x = withMeters(1);
        for (int day = 0; day <= 400; day += 100) {
            x.ticket(0, day, 1, 100);
        }
        x.factor(0, 100, 0, 101000);
        Check.due(x.remake(0, 101, 199), 0);
        Check.due(x.remake(0, 100, 200), 2);
        Check.due(x.ticketed(1, 6), 5);
        Check.due(x.ticketed(2, 6), 6);
        Check.due(x.remake(0, 400, 400), 1);
        Check.due(x.remake(0, 0, 0), 1);
        Check.due(x.remake(0, 0, 400), 1);
    }

    private static void remakeFull() {
        Check.promise(13);
        TrueLitres x = withMeters(1);
        x.ticket(0, 1, 1, 100);
        x.ticket(0, 2, 1, 100);
        x.factor(0, 100, 0, 101000);
        fill(x, 39);
        Check.due(x.remake(0, 0, 99), FULL);
        Check.due(x.told(1), 39);
        Check.due(x.ticketed(0, 6), NONE);
        Check.due(x.ticketed(1, 6), NONE);
        Check.due(x.remake(0, 2, 99), 1);
        Check.due(x.ticketed(1, 6), 39);
        Check.due(x.remake(0, 2, 400), 0);
        Check.due(x.remake(0, 0, 400), FULL);
        x.shut(0);
        Check.due(x.remake(0, 0, 400), STATE);
    }

    private static void refusalsOfRemake() {
        Check.promise(13);
        TrueLitres x = withMeters(1);
        x.ticket(0, 5, 1, 100);
        x.ticket(0, 6, 1, 100);
        x.factor(0, 100, 0, 101000);
        Check.due(x.remake(1, 0, 400), UNKNOWN);
        Check.due(x.remake(-1, -1, 401), UNKNOWN);
        Check.due(x.remake(0, -1, 400), OUTSIDE);
        Check.due(x.remake(0, 0, 401), OUTSIDE);
        Check.due(x.remake(0, 7, 6), OUTSIDE);
        x.shut(5);
        Check.due(x.remake(0, 5, 400), STATE);
        Check.due(x.remake(0, 5, 4), OUTSIDE);
        Check.due(x.remake(0, 0, 401), OUTSIDE);
        Check.due(x.told(1), 2);
        Check.due(x.remake(0, 6, 400), 1);
        Check.due(x.ticketed(0, 6), NONE);
        Check.due(x.ticketed(1, 6), 2);
    }

    private static void ticketed() {
        Check.promise(14);
        TrueLitres x = withMeters(1);
        Check.due(x.ticketed(0, 0), UNKNOWN);
        x.ticket(0, 5, 1, 100);
        Check.dueEach(about(x, 0), 0, 0, 5, 1, 100, 100000, NONE, NONE);
        Check.due(x.ticketed(1, 0), UNKNOWN);
        Check.due(x.ticketed(-1, 8), UNKNOWN);
        Check.due(x.ticketed(40, 8), UNKNOWN);
        Check.due(x.ticketed(0, 8), OUTSIDE);
        Check.due(x.ticketed(0, -1), OUTSIDE);
    }

    private static void volume() {
        Check.promise(15);
        TrueLitres x = new TrueLitres();
        x.meter(20);
        x.meter(3);
        x.meter(1);
        x.meter(100000);
        Check.due(x.volume(0), LOST);
        x.factor(0, 1, 0, 95001);
        x.factor(2, 1, 0, 105000);
        x.ticket(0, 0, 1, 1);
        x.ticket(1, 0, 1, 1);
        x.ticket(1, 0, 2, 1);
        x.ticket(2, 0, 10000000, 1);
        x.ticket(3, 0, 1, 1);
        x.ticket(3, 0, 0, 1);
        Check.due(x.volume(0), 47501);
        Check.due(x.volume(1), 333333);
        Check.due(x.volume(2), 666667);
        Check.due(x.volume(3), 10500000000000L);
        Check.due(x.volume(4), 10);
        Check.due(x.volume(5), 0);
        Check.due(x.volume(6), LOST);
        Check.due(x.volume(-1), LOST);
        // One that is replaced keeps its own.
        x.right(1, 3);
        Check.due(x.volume(1), 333333);
        Check.due(x.volume(6), 1000000);
    }

    private static void sum() {
        Check.promise(16);
        TrueLitres x = withMeters(2);
        x.ticket(0, 0, 1, 100);
        x.ticket(0, 200, 20, 100);
        x.ticket(0, 400, 300, 100);
        x.ticket(1, 200, 4000, 100);
        Check.due(x.sum(0, 0, 400), 321000);
        Check.due(x.sum(0, 0, 0), 1000);
        Check.due(x.sum(0, 0, 199), 1000);
        Check.due(x.sum(0, 0, 200), 21000);
        Check.due(x.sum(0, 200, 200), 20000);
        Check.due(x.sum(0, 201, 400), 300000);
        Check.due(x.sum(0, 400, 400), 300000);
        Check.due(x.sum(0, 1, 199), 0);
        Check.due(x.sum(1, 0, 400), 4000000);
        x.right(1, 50000);
        Check.due(x.sum(0, 0, 400), 50301000);
        x.shut(400);
        Check.due(x.sum(0, 0, 400), 50301000);
        Check.due(x.sum(2, 0, 400), LOST);
        Check.due(x.sum(-1, 0, 400), LOST);
        Check.due(x.sum(0, -1, 400), LOST);
        Check.due(x.sum(0, 0, 401), LOST);
        Check.due(x.sum(0, 2, 1), LOST);
        // Each volume is rounded by itself, and the greatest sum stands.
        TrueLitres y = new TrueLitres();
        y.meter(3);
        y.ticket(0, 0, 1, 1);
        y.ticket(0, 0, 1, 1);
        Check.due(y.sum(0, 0, 0), 666666);
        TrueLitres z = new TrueLitres();
        z.meter(1);
        z.factor(0, 1, 0, 105000);
        for (int t = 0; t < 40; t++) {
            z.ticket(0, 0, 10000000, 1);
        }
        Check.due(z.sum(0, 0, 0), 420000000000000L);
    }

    private static void shut() {
        Check.promise(17);
        TrueLitres x = withMeters(1);
        Check.due(x.shut(-1), OUTSIDE);
        Check.due(x.shut(NONE), OUTSIDE);
        Check.due(x.shut(401), OUTSIDE);
        Check.due(x.told(3), NONE);
        Check.due(x.ticket(0, 0, 0, 1), 0);
        Check.due(x.shut(0), NONE);
        Check.due(x.told(3), 0);
        Check.due(x.ticket(0, 0, 0, 1), STATE);
        Check.due(x.ticket(0, 1, 0, 1), 1);
        Check.due(x.shut(7), 0);
        Check.due(x.shut(6), OUTSIDE);
        Check.due(x.shut(7), 7);
        Check.due(x.shut(401), OUTSIDE);
        Check.due(x.told(3), 7);
        Check.due(x.shut(400), 7);
        Check.due(x.ticket(0, 400, 0, 1), STATE);
        Check.due(x.shut(400), 400);
        // Factors still come, from any day on.
        Check.due(x.factor(0, 1, 0, 101000), 1);
    }
}
