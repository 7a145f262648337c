/** Promises 18 to 23: lines. */
final class LinesTest {
    private static final int UNKNOWN = TrueLitres.UNKNOWN, OUTSIDE = TrueLitres.OUTSIDE;
    private static final long LOST = TrueLitres.LOST;

    private LinesTest() {
    }

    static void run() {
        line();
        lined();
        end();
        balance();
        balanceDays();
        beyond();
        explains();
        explainsWithinMore();
        explainsByTrial();
    }

    /** Meters of one pulse a litre, each with a ticket of day 10 of so many litres. */
    private static TrueLitres withSums(int... litres) {
        TrueLitres x = new TrueLitres();
        for (int m = 0; m < litres.length; m++) {
            x.meter(1000);
            x.ticket(m, 10, litres[m], 1);
        }
        return x;
    }

    private static void line() {
        Check.promise(18);
        TrueLitres x = withSums(1, 2);
        Check.due(x.line(-1, 0, 1), UNKNOWN);
        Check.due(x.line(4, 0, 1), UNKNOWN);
        Check.due(x.line(0, -1, 1), UNKNOWN);
        Check.due(x.line(0, 2, 1), UNKNOWN);
        Check.due(x.line(4, 2, 2), UNKNOWN);
        Check.due(x.line(0, 2, 2), UNKNOWN);
        Check.due(x.line(0, 0, 2), OUTSIDE);
        Check.due(x.line(0, 0, -2), OUTSIDE);
        Check.due(x.lined(0, 0), 10);
        Check.due(x.line(0, 0, 0), 0);
        Check.due(x.line(0, 0, 1), 1);
        Check.due(x.line(0, 0, 1), 0);
        Check.due(x.line(0, 0, -1), 1);
        Check.due(x.line(0, 0, -1), 0);
        Check.due(x.line(3, 1, -1), 1);
        Check.due(x.line(0, 0, 0), 1);
        Check.due(x.lined(0, 0), 10);
        Check.due(x.lined(3, 1), 9);
        Check.due(x.lined(3, 0), 10);
    }

    private static void lined() {
        Check.promise(19);
        TrueLitres x = withSums(1, 2);
        x.line(1, 0, 1);
        x.line(2, 0, -1);
        Check.due(x.lined(0, 0), 10);
        Check.due(x.lined(1, 0), 11);
        Check.due(x.lined(2, 0), 9);
        Check.due(x.lined(1, 1), 10);
        Check.due(x.lined(-1, 0), UNKNOWN);
        Check.due(x.lined(4, 0), UNKNOWN);
        Check.due(x.lined(0, -1), UNKNOWN);
        Check.due(x.lined(0, 2), UNKNOWN);
    }

    private static void end() {
        Check.promise(20);
        TrueLitres x = withSums(1, 2);
        Check.due(x.end(2, 0), UNKNOWN);
        Check.due(x.end(-1, -1), UNKNOWN);
        Check.due(x.end(0, -1), OUTSIDE);
        Check.due(x.end(0, 5001), OUTSIDE);
        Check.due(x.end(0, 5000), 0);
        Check.due(x.end(0, 5001), OUTSIDE);
        Check.due(x.end(0, 7), 5000);
        Check.due(x.end(1, 0), 0);
        Check.due(x.end(0, 0), 7);
    }

    private static void balance() {
        Check.promise(21);
        TrueLitres x = withSums(100, 90, 5000);
        x.line(1, 0, 1);
        x.line(1, 1, -1);
        x.end(0, 1234);
        x.end(1, 77);
        x.end(2, 5000);
        Check.due(x.balance(1, 0, 400, 0), 10000);
        Check.due(x.balance(1, 0, 400, 1), 1234 + 69);
        Check.due(x.balance(0, 0, 400, 0), 0);
        Check.due(x.balance(0, 0, 400, 1), 0);
        x.line(1, 2, -1);
        Check.due(x.balance(1, 0, 400, 0), -4990000);
        Check.due(x.balance(1, 0, 400, 1), 1234 + 69 + 250000);
        x.line(1, 0, 0);
        Check.due(x.balance(1, 0, 400, 0), -5090000);
        Check.due(x.balance(1, 0, 400, 1), 69 + 250000);
        // Each part is cut by itself: 0.99 and 0.99 ml are nothing.
        TrueLitres small = new TrueLitres();
        for (int m = 0; m < 2; m++) {
            small.meter(100000);
            small.ticket(m, 0, 99, 1);
            small.end(m, 100);
            small.line(3, m, 1);
        }
        Check.due(small.balance(3, 0, 0, 0), 1980);
        Check.due(small.balance(3, 0, 0, 1), 0);
        small.end(1, 102);
        Check.due(small.balance(3, 0, 0, 1), 1);
        TrueLitres great = new TrueLitres();
        great.meter(1);
        great.factor(0, 1, 0, 105000);
        for (int t = 0; t < 40; t++) {
            great.ticket(0, 0, 10000000, 1);
        }
        great.end(0, 5000);
        great.line(0, 0, -1);
        Check.due(great.balance(0, 0, 0, 0), -420000000000000L);
        Check.due(great.balance(0, 0, 0, 1), 21000000000000L);
    }

    private static void balanceDays() {
        Check.promise(21);
        TrueLitres x = withSums(100);
        x.line(0, 0, 1);
        x.end(0, 1000);
        Check.due(x.balance(0, 10, 10, 0), 100000);
        Check.due(x.balance(0, 0, 9, 0), 0);
        Check.due(x.balance(0, 11, 400, 1), 0);
        Check.due(x.balance(0, 10, 10, 1), 1000);
        Check.due(x.balance(-1, 0, 400, 0), LOST);
        Check.due(x.balance(4, 0, 400, 0), LOST);
        Check.due(x.balance(0, 0, 400, 2), LOST);
        Check.due(x.balance(0, 0, 400, -1), LOST);
        Check.due(x.balance(0, -1, 400, 0), LOST);
        Check.due(x.balance(0, 0, 401, 0), LOST);
        Check.due(x.balance(0, 5, 4, 0), LOST);
    }

    private static void beyond() {
        Check.promise(22);
        // 100 l in, 99 l and 1 l out: ends of 1000 ml.
        TrueLitres x = withSums(100, 99, 101);
        x.end(0, 1000);
        for (int l = 0; l < 4; l++) {
            x.line(l, 0, 1);
        }
        Check.due(x.beyond(0, 400), 15);
        x.line(0, 1, -1);
        x.line(1, 2, -1);
        Check.due(x.beyond(0, 400), 12);
        x.end(0, 999);
        Check.due(x.beyond(0, 400), 15);
        x.line(2, 0, 0);
        Check.due(x.beyond(0, 400), 11);
        Check.due(x.beyond(10, 10), 11);
        Check.due(x.beyond(0, 9), 0);
        Check.due(x.beyond(11, 400), 0);
        Check.due(x.beyond(-1, 400), OUTSIDE);
        Check.due(x.beyond(0, 401), OUTSIDE);
        Check.due(x.beyond(6, 5), OUTSIDE);
    }

    private static void explains() {
        Check.promise(23);
        TrueLitres x = withSums(100, 90, 0);
        x.line(0, 0, 1);
        x.line(0, 1, -1);
        x.end(0, 1000);
        Check.due(x.balance(0, 0, 400, 0), 10000);
        Check.due(x.balance(0, 0, 400, 1), 1000);
        Check.due(x.explains(0, 0, 400), -9000);
        Check.due(x.explains(1, 0, 400), 9000);
        Check.due(x.explains(2, 0, 400), 0);
        // It would have to be below nothing at all: still it is told.
        x.line(1, 2, 1);
        Check.due(x.explains(2, 0, 400), 0);
        x.line(0, 2, 1);
        Check.due(x.explains(2, 0, 400), 0);
        x.line(1, 2, 0);
        Check.due(x.explains(2, 0, 400), -9000);
        // No line is beyond: there is nothing to explain.
        Check.due(x.explains(0, 0, 9), 0);
        x.end(0, 5000);
        x.end(1, 5000);
        x.right(1, 91);
        Check.due(x.beyond(0, 400), 0);
        Check.due(x.explains(0, 0, 400), 0);
        Check.due(x.explains(3, 0, 400), LOST);
        Check.due(x.explains(-1, 0, 400), LOST);
        Check.due(x.explains(0, -1, 400), LOST);
        Check.due(x.explains(0, 0, 401), LOST);
        Check.due(x.explains(0, 3, 2), LOST);
    }

    private static void explainsWithinMore() {
        Check.promise(23);
        // Both lines want another x of meter 0: 9000 .. 11000 and 10500 .. 11500.
        TrueLitres x = withSums(100, 110, 111);
        x.line(0, 0, 1);
        x.line(0, 1, -1);
        x.line(1, 0, 1);
        x.line(1, 2, -1);
        x.end(0, 0);
        x.end(1, 910);
        x.end(2, 451);
        Check.due(x.balance(0, 0, 400, 0), -10000);
        Check.due(x.balance(0, 0, 400, 1), 1001);
        Check.due(x.balance(1, 0, 400, 0), -11000);
        Check.due(x.balance(1, 0, 400, 1), 500);
        Check.due(x.beyond(0, 400), 3);
        Check.due(x.explains(0, 0, 400), 10500);
        // The other way round at both lines.
        for (int l = 0; l < 2; l++) {
            x.line(l, 0, -1);
            x.line(l, l + 1, 1);
        }
        Check.due(x.explains(0, 0, 400), 10500);
        // One line gains what the other loses.
        x.line(0, 0, 1);
        x.line(0, 1, -1);
        x.line(1, 0, 1);
        x.line(1, 2, 1);
        Check.due(x.explains(0, 0, 400), 0);
        // Another line that is not beyond must not come to be.
        TrueLitres y = withSums(100, 110, 100);
        y.line(0, 0, 1);
        y.line(0, 1, -1);
        y.line(2, 0, 1);
        y.line(2, 2, -1);
        Check.due(y.beyond(0, 400), 1);
        Check.due(y.explains(0, 0, 400), 0);
        y.end(2, 5000);
        y.end(1, 4545);
        Check.due(y.balance(2, 0, 400, 1), 5000);
        Check.due(y.balance(0, 0, 400, 1), 4999);
        Check.due(y.explains(0, 0, 400), 0);
        y.end(1, 4546);
        Check.due(y.balance(0, 0, 400, 1), 5000);
        Check.due(y.explains(0, 0, 400), 5000);
    }

    /** Small meters drawn by a fixed row of numbers: each x near 0 is tried as the document tells. */
    private static void explainsByTrial() {
        Check.promise(23);
        int found = 0;
        for (int round = 0; round < 400; round++) {
            TrueLitres x = new TrueLitres();
            for (int m = 0; m < 4; m++) {
                x.meter(100000);
                x.end(m, Draw.below(5001));
                x.ticket(m, 0, Draw.below(30), 1);
                for (int l = 0; l < 1 + Draw.below(3); l++) {
                    x.line(Draw.below(4), m, Draw.below(3) - 1);
                }
            }
            for (int m = 0; m < 4; m++) {
                long x0 = explainedByTrial(x, m);
                found += x0 != 0 ? 1 : 0;
                Check.due(x.explains(m, 0, 0), x0);
            }
        }
        Check.dueTrue(found > 50, "some meters explain it: " + found);
    }

    private static long explainedByTrial(TrueLitres x, int m) {
        long[] off = new long[4], ends = new long[4];
        int[] how = new int[4];
        for (int l = 0; l < 4; l++) {
            off[l] = x.balance(l, 0, 0, 0);
            ends[l] = x.balance(l, 0, 0, 1);
            how[l] = x.lined(l, m) - 10;
        }
        if (isNoneBeyond(off, ends, how, 0)) {
            return 0;
        }
        for (int far = 1; far <= 3000; far++) {
            if (isNoneBeyond(off, ends, how, far)) {
                return far;
            }
            if (isNoneBeyond(off, ends, how, -far)) {
                return -far;
            }
        }
        return 0;
    }

    private static boolean isNoneBeyond(long[] off, long[] ends, int[] how, long more) {
        for (int l = 0; l < 4; l++) {
            long now = off[l] + how[l] * more;
            if (now > ends[l] || now < -ends[l]) {
                return false;
            }
        }
        return true;
    }
}
