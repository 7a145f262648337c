/** Promises 1 to 10: the new object, meters and proofs. */
final class MetersTest {
    private static final int UNKNOWN = TrueLitres.UNKNOWN, OUTSIDE = TrueLitres.OUTSIDE;
    private static final int STATE = TrueLitres.STATE, FULL = TrueLitres.FULL, NONE = TrueLitres.NONE;
    private static final long LOST = TrueLitres.LOST;
    private static final int LEAST = Integer.MIN_VALUE, GREATEST = Integer.MAX_VALUE;

    private MetersTest() {
    }

    static void run() {
        newObject();
        meter();
        factor();
        factorByFlow();
        factorByDay();
        factorCut();
        factorsFull();
        points();
        point();
        proof();
        countOfRun();
        refusalsOfRun();
        proving();
        good();
        accept();
        acceptRounded();
        acceptNone();
        acceptRefusals();
    }

    private static TrueLitres withMeters(int... ks) {
        TrueLitres x = new TrueLitres();
        for (int k : ks) {
            x.meter(k);
        }
        return x;
    }

    /** RUNS whose COUNTS are the given ones. */
    private static void runs(TrueLitres x, int... counts) {
        for (int count : counts) {
            Check.due(x.run(1, 1000, count), count);
        }
    }

    private static void newObject() {
        Check.promise(1);
        TrueLitres x = new TrueLitres();
        Check.due(x.fault(), 0);
        Check.due(x.trace(), 0);
        Check.due(x.told(0), 0);
        Check.due(x.told(1), 0);
        Check.due(x.told(2), 0);
        Check.due(x.told(3), NONE);
        Check.due(x.proving(0), STATE);
        Check.due(x.run(1, 1, 1), LOST);
        Check.due(x.accept(0), STATE);
        Check.due(x.at(0, 1, 0), UNKNOWN);
        Check.due(x.volume(0), LOST);
        Check.due(x.lined(0, 0), UNKNOWN);
        Check.due(x.beyond(0, 400), 0);
        for (int k = 0; k < 4; k++) {
            Check.due(x.lose(k), 0);
            Check.due(x.put(k, 0, 0), -11);
        }
        Check.due(x.shut(0), NONE);
        TrueLitres other = new TrueLitres();
        other.meter(1);
        Check.due(x.told(0), 0);
        Check.due(other.told(3), NONE);
    }

    private static void meter() {
        Check.promise(2);
        TrueLitres x = new TrueLitres();
        Check.due(x.meter(0), OUTSIDE);
        Check.due(x.meter(-1), OUTSIDE);
        Check.due(x.meter(LEAST), OUTSIDE);
        Check.due(x.meter(100001), OUTSIDE);
        Check.due(x.meter(GREATEST), OUTSIDE);
        Check.due(x.told(0), 0);
        Check.due(x.meter(1), 0);
        Check.due(x.meter(100000), 1);
        for (int m = 2; m < 6; m++) {
            Check.due(x.meter(1000), m);
        }
        Check.due(x.meter(1000), FULL);
        Check.due(x.meter(0), OUTSIDE);
        Check.due(x.told(0), 6);
    }

    private static void factor() {
        Check.promise(3);
        TrueLitres x = withMeters(1000, 1000);
        Check.due(x.factor(2, 1, 0, 95000), UNKNOWN);
        Check.due(x.factor(-1, 1, 0, 95000), UNKNOWN);
        Check.due(x.factor(6, 1, 0, 95000), UNKNOWN);
        Check.due(x.factor(2, 0, -1, 0), UNKNOWN);
        Check.due(x.factor(0, 0, 0, 95000), OUTSIDE);
        Check.due(x.factor(0, 10001, 0, 95000), OUTSIDE);
        Check.due(x.factor(0, 1, -1, 95000), OUTSIDE);
        Check.due(x.factor(0, 1, 401, 95000), OUTSIDE);
        Check.due(x.factor(0, 1, 0, 94999), OUTSIDE);
        Check.due(x.factor(0, 1, 0, 105001), OUTSIDE);
        Check.due(x.told(10), 0);
        Check.due(x.factor(0, 1, 0, 95000), 1);
        Check.due(x.factor(0, 10000, 400, 105000), 2);
        Check.due(x.factor(1, 5, 5, 100000), 1);
        for (int count = 3; count <= 12; count++) {
            Check.due(x.factor(0, 7, 7, 100000), count);
        }
        Check.due(x.factor(0, 7, 7, 100001), FULL);
        Check.due(x.factor(0, 0, 7, 100001), OUTSIDE);
        Check.due(x.at(0, 7, 7), 100000);
        Check.due(x.told(10), 12);
        Check.due(x.factor(1, 5, 5, 100000), 2);
    }

    private static void factorByFlow() {
        Check.promise(4);
        TrueLitres x = withMeters(1000, 1000);
        Check.due(x.at(0, 1, 0), 100000);
        Check.due(x.at(0, 10000, 400), 100000);
        x.factor(0, 300, 0, 102000);
        Check.due(x.at(0, 1, 0), 102000);
        Check.due(x.at(0, 300, 0), 102000);
        Check.due(x.at(0, 10000, 0), 102000);
        x.factor(0, 100, 0, 101000);
        x.factor(0, 500, 0, 99000);
        Check.due(x.at(0, 99, 0), 101000);
        Check.due(x.at(0, 100, 0), 101000);
        Check.due(x.at(0, 200, 0), 101500);
        Check.due(x.at(0, 300, 0), 102000);
        Check.due(x.at(0, 400, 0), 100500);
        Check.due(x.at(0, 500, 0), 99000);
        Check.due(x.at(0, 501, 0), 99000);
        Check.due(x.at(1, 200, 0), 100000);
        Check.due(x.at(2, 200, 0), UNKNOWN);
        Check.due(x.at(-1, 0, -1), UNKNOWN);
        Check.due(x.at(0, 0, 0), OUTSIDE);
        Check.due(x.at(0, 10001, 0), OUTSIDE);
        Check.due(x.at(0, 1, -1), OUTSIDE);
        Check.due(x.at(0, 1, 401), OUTSIDE);
    }

    private static void factorByDay() {
        Check.promise(4);
        TrueLitres x = withMeters(1000);
        x.factor(0, 100, 10, 101000);
        Check.due(x.at(0, 100, 9), 100000);
        Check.due(x.at(0, 100, 10), 101000);
        Check.due(x.at(0, 100, 400), 101000);
        x.factor(0, 100, 20, 102000);
        Check.due(x.at(0, 100, 19), 101000);
        Check.due(x.at(0, 100, 20), 102000);
        // One of an earlier day that comes later holds only up to the later day.
        x.factor(0, 100, 15, 103000);
        Check.due(x.at(0, 100, 14), 101000);
        Check.due(x.at(0, 100, 15), 103000);
        Check.due(x.at(0, 100, 20), 102000);
        // Of one day the one that came last, be it the lower or the higher.
        x.factor(0, 100, 20, 104000);
        Check.due(x.at(0, 100, 20), 104000);
        x.factor(0, 100, 20, 98000);
        Check.due(x.at(0, 100, 20), 98000);
        Check.due(x.at(0, 100, 19), 103000);
        // A flow's points of another day do not count for its neighbours.
        x.factor(0, 200, 20, 99000);
        Check.due(x.at(0, 150, 19), 103000);
        Check.due(x.at(0, 150, 20), 98500);
    }

    private static void factorCut() {
        Check.promise(4);
        TrueLitres x = withMeters(1000);
        x.factor(0, 10, 0, 100000);
        x.factor(0, 13, 0, 100002);
        x.factor(0, 16, 0, 100000);
        Check.due(x.at(0, 11, 0), 100000);
        Check.due(x.at(0, 12, 0), 100001);
        Check.due(x.at(0, 14, 0), 100002);
        Check.due(x.at(0, 15, 0), 100001);
        x.factor(0, 1, 100, 105000);
        x.factor(0, 10000, 100, 95000);
        Check.due(x.at(0, 9999, 100), 95001);
        Check.due(x.at(0, 2, 100), 104445);
    }

    private static void factorsFull() {
        Check.promise(4);
        TrueLitres x = withMeters(1000);
        for (int i = 0; i < 12; i++) {
            x.factor(0, 1200 - 100 * i, 0, 100000 + 100 * i);
        }
        Check.due(x.points(0, 0), 12);
        Check.due(x.point(0, 400, 11, 0), 1200);
        Check.due(x.point(0, 400, 12, 0), UNKNOWN);
        Check.due(x.at(0, 50, 0), 101100);
        Check.due(x.at(0, 1150, 0), 100050);
        Check.due(x.at(0, 10000, 400), 100000);
        Check.due(x.factor(0, 1, 0, 100000), FULL);
    }

    private static void points() {
        Check.promise(5);
        TrueLitres x = withMeters(1000, 1000);
        Check.due(x.points(0, 400), 0);
        x.factor(0, 300, 5, 100001);
        x.factor(0, 100, 7, 100002);
        x.factor(0, 300, 7, 100003);
        x.factor(0, 300, 7, 100004);
        Check.due(x.points(0, 0), 0);
        Check.due(x.points(0, 4), 0);
        Check.due(x.points(0, 5), 1);
        Check.due(x.points(0, 6), 1);
        Check.due(x.points(0, 7), 2);
        Check.due(x.points(0, 400), 2);
        Check.due(x.points(1, 400), 0);
        Check.due(x.points(2, 0), UNKNOWN);
        Check.due(x.points(-1, -1), UNKNOWN);
        Check.due(x.points(0, -1), OUTSIDE);
        Check.due(x.points(0, 401), OUTSIDE);
    }

    private static void point() {
        Check.promise(6);
        TrueLitres x = withMeters(1000, 1000);
        Check.due(x.point(0, 0, 0, 0), UNKNOWN);
        x.factor(0, 300, 5, 100001);
        x.factor(0, 100, 7, 100002);
        x.factor(0, 300, 7, 100003);
        x.factor(0, 300, 7, 100004);
        Check.due(x.point(0, 5, 0, 0), 300);
        Check.due(x.point(0, 5, 0, 1), 100001);
        Check.due(x.point(0, 7, 0, 0), 100);
        Check.due(x.point(0, 7, 0, 1), 100002);
        Check.due(x.point(0, 7, 1, 0), 300);
        Check.due(x.point(0, 7, 1, 1), 100004);
        Check.due(x.point(0, 5, 1, 0), UNKNOWN);
        Check.due(x.point(0, 7, 2, 0), UNKNOWN);
        Check.due(x.point(0, 7, -1, 0), UNKNOWN);
        Check.due(x.point(0, 7, NONE, 0), UNKNOWN);
        Check.due(x.point(1, 7, 0, 0), UNKNOWN);
        Check.due(x.point(2, 7, 0, 0), UNKNOWN);
        Check.due(x.point(-1, 401, 0, 2), UNKNOWN);
        Check.due(x.point(0, 401, 0, 0), OUTSIDE);
        Check.due(x.point(0, GREATEST, 0, 0), OUTSIDE);
        Check.due(x.point(0, 7, 0, 2), OUTSIDE);
        Check.due(x.point(0, 7, 0, -1), OUTSIDE);
        Check.due(x.point(0, 7, 2, 2), UNKNOWN);
    }

    private static void proof() {
        Check.promise(7);
        TrueLitres x = withMeters(1000, 1000);
        Check.due(x.proof(2, 1, 1000), UNKNOWN);
        Check.due(x.proof(-1, 0, 0), UNKNOWN);
        Check.due(x.proof(0, 0, 1000), OUTSIDE);
        Check.due(x.proof(0, 10001, 1000), OUTSIDE);
        Check.due(x.proof(0, 1, 999), OUTSIDE);
        Check.due(x.proof(0, 1, 1000001), OUTSIDE);
        Check.due(x.proving(0), STATE);
        Check.due(x.proof(0, 1, 1000), 1);
        Check.due(x.proving(2), 0);
        Check.due(x.proving(3), 1);
        runs(x, 100000, 100000);
        Check.due(x.proof(0, 1, 999), OUTSIDE);
        Check.due(x.proof(2, 1, 1000), UNKNOWN);
        Check.due(x.proving(0), 2);
        Check.due(x.proof(1, 10000, 1000000), 1);
        Check.due(x.proving(0), 0);
        Check.due(x.proving(2), 1);
        Check.due(x.proving(3), 10000);
    }

    private static void countOfRun() {
        Check.promise(8);
        TrueLitres x = withMeters(1000);
        x.proof(0, 1, 1000);
        Check.due(x.run(100, 1000, 1000), 100000);
        Check.due(x.run(3, 7, 5), 2142);
        Check.due(x.run(1, 1000000, 1), 0);
        Check.due(x.run(1, 1, 1), 1000);
        Check.due(x.run(100000, 1, 1000000), 100000000000000L);
        Check.due(x.run(100000, 1000000, 1000000), 100000000L);
        Check.due(x.proving(0), 6);
    }

    private static void refusalsOfRun() {
        Check.promise(8);
        TrueLitres x = withMeters(1000);
        Check.due(x.run(100, 1000, 1000), LOST);
        x.proof(0, 1, 1000);
        Check.due(x.run(0, 1, 1), LOST);
        Check.due(x.run(100001, 1, 1), LOST);
        Check.due(x.run(1, 0, 1), LOST);
        Check.due(x.run(1, 1000001, 1), LOST);
        Check.due(x.run(1, 1, 0), LOST);
        Check.due(x.run(1, 1, 1000001), LOST);
        Check.due(x.run(LEAST, LEAST, LEAST), LOST);
        Check.due(x.proving(0), 0);
        for (int i = 1; i <= 12; i++) {
            Check.due(x.run(i, 1, 1), 1000 * i);
            Check.due(x.proving(0), i);
        }
        Check.due(x.run(1, 1, 1), LOST);
        Check.due(x.proving(0), 12);
    }

    private static void proving() {
        Check.promise(9);
        TrueLitres x = withMeters(1000, 1000);
        Check.due(x.proving(-1), OUTSIDE);
        Check.due(x.proving(4), OUTSIDE);
        for (int what = 0; what < 4; what++) {
            Check.due(x.proving(what), STATE);
        }
        x.proof(1, 77, 1000);
        Check.due(x.proving(0), 0);
        Check.due(x.proving(1), 0);
        Check.due(x.proving(2), 1);
        Check.due(x.proving(3), 77);
        Check.due(x.proving(-1), OUTSIDE);
        Check.due(x.proving(4), OUTSIDE);
        runs(x, 100000, 100000, 100000, 100000, 100000);
        Check.due(x.proving(0), 5);
        Check.due(x.proving(1), 1);
    }

    private static int isGood(int... counts) {
        TrueLitres x = withMeters(1000);
        x.proof(0, 1, 1000);
        runs(x, counts);
        return x.proving(1);
    }

    private static void good() {
        Check.promise(9);
        Check.due(isGood(), 0);
        Check.due(isGood(100000, 100000, 100000, 100000), 0);
        Check.due(isGood(100000, 100000, 100000, 100000, 100000), 1);
        Check.due(isGood(100000, 100000, 100050, 100000, 100000), 1);
        Check.due(isGood(100000, 100000, 100051, 100000, 100000), 0);
        Check.due(isGood(100051, 100000, 100000, 100000, 100000), 0);
        Check.due(isGood(100000, 100000, 100000, 100000, 100051), 0);
        Check.due(isGood(99999, 100049, 100049, 100049, 100049), 0);
        Check.due(isGood(90000, 100000, 100000, 100000, 100000, 100000), 1);
        Check.due(isGood(100000, 100000, 100000, 100000, 100000, 90000), 0);
        Check.due(isGood(1, 1, 1, 1, 1), 1);
        TrueLitres x = withMeters(1000);
        x.proof(0, 1, 1000);
        for (int i = 0; i < 5; i++) {
            Check.due(x.run(1, 1000000, 1), 0);
        }
        Check.due(x.proving(1), 0);
        for (int i = 0; i < 5; i++) {
            x.run(100000, 1, 1000000);
        }
        Check.due(x.proving(1), 1);
        x.run(1, 1, 1);
        Check.due(x.proving(1), 0);
    }

    private static void accept() {
        Check.promise(10);
        TrueLitres x = withMeters(1000, 2000);
        x.factor(1, 100, 0, 95000);
        x.proof(1, 100, 50000);
        runs(x, 90000, 100000, 100000, 100000, 100000, 100050);
        Check.due(x.accept(30), 99990);
        Check.due(x.proving(0), STATE);
        Check.due(x.accept(30), STATE);
        Check.due(x.run(1, 1, 1), LOST);
        Check.due(x.told(10), 0);
        Check.due(x.told(11), 2);
        Check.due(x.at(1, 100, 29), 95000);
        Check.due(x.at(1, 100, 30), 99990);
        Check.due(x.points(1, 30), 1);
        // A next one begins without the runs of the one that is done.
        x.proof(0, 1, 100000);
        Check.due(x.proving(0), 0);
        runs(x, 100000, 100000, 100000, 100000, 100000);
        Check.due(x.accept(0), 100000);
        x.proof(0, 1, 100000);
        runs(x, 100000, 100000, 100000, 100000, 100000);
        Check.due(x.accept(400), 100000);
        Check.due(x.told(10), 2);
    }

    /** What accept answers of a PROOF with five COUNTS of 100000. */
    private static int accepted(int k, int v) {
        TrueLitres x = withMeters(k);
        x.proof(0, 1, v);
        runs(x, 100000, 100000, 100000, 100000, 100000);
        int factor = x.accept(0);
        Check.due(x.proving(0), factor == NONE ? 5 : STATE);
        Check.due(x.told(10), factor == NONE ? 0 : 1);
        Check.due(x.at(0, 1, 0), factor == NONE ? 100000 : factor);
        return factor;
    }

    private static void acceptRounded() {
        Check.promise(10);
        Check.due(accepted(99500, 1001), 99600);
        Check.due(accepted(99499, 1001), 99598);
        Check.due(accepted(99400, 1001), 99499);
        Check.due(accepted(98500, 1001), 98599);
    }

    private static void acceptNone() {
        Check.promise(10);
        Check.due(accepted(95000, 1000), 95000);
        Check.due(accepted(94999, 1000), NONE);
        Check.due(accepted(99905, 1051), 105000);
        Check.due(accepted(99906, 1051), NONE);
        Check.due(accepted(1, 1000), NONE);
        Check.due(accepted(100000, 1000000), NONE);
        TrueLitres x = withMeters(100000);
        x.proof(0, 1, 1000000);
        runs(x, 1, 1, 1, 1, 1);
        Check.due(x.accept(0), NONE);
        Check.due(x.proving(0), 5);
        // The proof stays, and goes on.
        runs(x, 100000);
        Check.due(x.proving(1), 0);
    }

    private static void acceptRefusals() {
        Check.promise(10);
        TrueLitres x = withMeters(1000);
        Check.due(x.accept(-1), OUTSIDE);
        Check.due(x.accept(401), OUTSIDE);
        Check.due(x.accept(0), STATE);
        for (int i = 0; i < 12; i++) {
            x.factor(0, 1, 0, 100000);
        }
        x.proof(0, 1, 1000);
        Check.due(x.accept(0), STATE);
        runs(x, 100000, 100000, 100000, 100000, 100000);
        Check.due(x.accept(-1), OUTSIDE);
        Check.due(x.accept(401), OUTSIDE);
        Check.due(x.accept(0), NONE);
        x.proof(0, 1, 100000);
        runs(x, 100000, 100000, 100000, 100000);
        Check.due(x.accept(0), STATE);
        runs(x, 100000);
        Check.due(x.accept(0), FULL);
        Check.due(x.accept(401), OUTSIDE);
        Check.due(x.proving(0), 5);
        Check.due(x.proving(1), 1);
        Check.due(x.told(10), 12);
    }
}
