/** What the document names the least, the greatest, the last, the nearest or nothing, where no call is refused. */
final class EdgesTest {
    private static final int UNKNOWN = TrueLitres.UNKNOWN, FULL = TrueLitres.FULL, NONE = TrueLitres.NONE;
    private static final int STATE = TrueLitres.STATE;
    private static final long LOST = TrueLitres.LOST;

    private EdgesTest() {
    }

    static void run() {
        lastCall();
        lastMeter();
        leastAndGreatestFlow();
        firstAndLastDay();
        cutTowardZero();
        lastFactorByAccept();
        greatestCount();
        latestFive();
        goodAtLeast();
        factorRounded();
        volumeRounded();
        lastTicket();
        roomForAll();
        shutDays();
        endsCut();
        justBeyond();
        nearestToNothing();
        emptySheet();
        longestSheet();
        mostSlips();
        tellingOfFirstAndLastDay();
        greatestWorth();
        traceWraps();
    }

    private static TrueLitres withMeters(int... ks) {
        TrueLitres x = new TrueLitres();
        for (int k : ks) {
            x.meter(k);
        }
        return x;
    }

    /** The 512th call after an object was made is answered as any other. */
    private static void lastCall() {
        Check.promise(33);
        TrueLitres x = withMeters(1000);
        x.ticket(0, 1, 2000, 1);
        int due = 0;
        for (int call = 3; call < 512; call++) {
            Check.due(x.worth(0), 2000);
            due = 31 * due + 4;
        }
        Check.due(x.trace(), due);
        TrueLitres y = withMeters(1000);
        for (int call = 2; call < 512; call++) {
            Check.due(y.run(1, 1, 1), LOST);
        }
        Check.due(y.ticket(0, 400, 0, 1), 0);
    }

    private static void lastMeter() {
        Check.promise(2);
        TrueLitres x = withMeters(1, 1, 1, 1, 1, 100000);
        Check.due(x.told(0), 6);
        Check.due(x.factor(5, 1, 0, 95000), 1);
        Check.due(x.ticket(5, 0, 10000000, 1), 0);
        Check.due(x.volume(0), 95000000);
        Check.due(x.line(3, 5, -1), 1);
        Check.due(x.lined(3, 5), 9);
        Check.due(x.end(5, 1), 0);
        Check.due(x.told(15), 1);
        Check.due(x.told(14), 0);
    }

    private static void leastAndGreatestFlow() {
        Check.promise(4);
        TrueLitres x = withMeters(1);
        x.factor(0, 1, 0, 95000);
        Check.due(x.at(0, 1, 0), 95000);
        Check.due(x.at(0, 2, 0), 95000);
        x.factor(0, 10000, 0, 105000);
        Check.due(x.at(0, 1, 0), 95000);
        Check.due(x.at(0, 2, 0), 95001);
        Check.due(x.at(0, 9999, 0), 104998);
        Check.due(x.at(0, 10000, 0), 105000);
        // Points next to one another leave nothing between.
        x.factor(0, 2, 0, 100000);
        Check.due(x.at(0, 1, 0), 95000);
        Check.due(x.at(0, 2, 0), 100000);
        Check.due(x.at(0, 3, 0), 100000);
        Check.due(x.points(0, 0), 3);
        // Just below the least FLOW and above the greatest of THE CURVE.
        TrueLitres y = withMeters(1);
        y.factor(0, 2, 0, 96000);
        y.factor(0, 9999, 0, 104000);
        Check.due(y.at(0, 1, 0), 96000);
        Check.due(y.at(0, 10000, 0), 104000);
    }

    private static void firstAndLastDay() {
        Check.promise(4);
        TrueLitres x = withMeters(1);
        x.factor(0, 5, 400, 104000);
        Check.due(x.at(0, 5, 399), 100000);
        Check.due(x.points(0, 399), 0);
        Check.due(x.point(0, 399, 0, 0), UNKNOWN);
        Check.due(x.at(0, 5, 400), 104000);
        Check.due(x.points(0, 400), 1);
        Check.due(x.point(0, 400, 0, 0), 5);
        x.factor(0, 5, 0, 96000);
        Check.due(x.at(0, 5, 0), 96000);
        Check.due(x.at(0, 5, 399), 96000);
        Check.due(x.at(0, 5, 400), 104000);
        Check.due(x.points(0, 400), 1);
        x.factor(0, 5, 0, 97000);
        Check.due(x.at(0, 5, 0), 97000);
        Check.due(x.at(0, 5, 400), 104000);
    }

    private static void cutTowardZero() {
        Check.promise(4);
        TrueLitres x = withMeters(1);
        // Rising and falling by one: nothing but the whole of it is seen.
        x.factor(0, 10, 0, 100000);
        x.factor(0, 20, 0, 100001);
        x.factor(0, 30, 0, 100000);
        Check.due(x.at(0, 19, 0), 100000);
        Check.due(x.at(0, 20, 0), 100001);
        Check.due(x.at(0, 21, 0), 100001);
        Check.due(x.at(0, 29, 0), 100001);
        Check.due(x.at(0, 30, 0), 100000);
    }

    private static void lastFactorByAccept() {
        Check.promise(10);
        TrueLitres x = withMeters(1000, 1000);
        for (int i = 0; i < 11; i++) {
            x.factor(0, 1, 0, 100000);
        }
        Check.due(x.proof(0, 1, 101000), 1);
        runs(x, 100000, 5);
        Check.due(x.accept(400), 101000);
        Check.due(x.told(10), 12);
        Check.due(x.at(0, 1, 399), 100000);
        Check.due(x.at(0, 1, 400), 101000);
        Check.due(x.factor(0, 1, 0, 100000), FULL);
        // The other METER has its own twelve.
        Check.due(x.factor(1, 1, 0, 100000), 1);
        x.proof(1, 1, 102000);
        runs(x, 100000, 5);
        Check.due(x.accept(0), 102000);
        Check.due(x.at(1, 1, 0), 102000);
    }

    private static void runs(TrueLitres x, int count, int times) {
        for (int i = 0; i < times; i++) {
            Check.due(x.run(1, 1000, count), count);
        }
    }

    private static void greatestCount() {
        Check.promise(8);
        TrueLitres x = withMeters(100000);
        x.proof(0, 1, 1000000);
        Check.due(x.run(100000, 1, 1000000), 100000000000000L);
        Check.due(x.run(99999, 1, 1000000), 99999000000000L);
        Check.due(x.run(1, 1000000, 1), 0);
        Check.due(x.run(1, 1000, 1), 1);
        Check.due(x.run(1, 1001, 1), 0);
        Check.due(x.run(1, 1000, 999), 999);
    }

    private static void latestFive() {
        Check.promise(9);
        TrueLitres x = withMeters(1000);
        x.proof(0, 1, 100000);
        runs(x, 50000, 7);
        runs(x, 100000, 4);
        Check.due(x.proving(1), 0);
        Check.due(x.accept(0), STATE);
        runs(x, 100000, 1);
        Check.due(x.proving(0), 12);
        Check.due(x.proving(1), 1);
        Check.due(x.run(1, 1000, 100000), LOST);
        Check.due(x.accept(0), 100000);
        // The one ahead of the five does not count, neither for GOOD nor for the FACTOR.
        TrueLitres y = withMeters(1000);
        y.proof(0, 1, 100000);
        runs(y, 99000, 1);
        runs(y, 100000, 5);
        Check.due(y.proving(1), 1);
        Check.due(y.accept(0), 100000);
    }

    private static void goodAtLeast() {
        Check.promise(9);
        // Apart by a 2000th of the least: 1 of 2000, but not 1 of 1999, nor 0 of 0.
        Check.due(goodWith(2000, 2001), 1);
        Check.due(goodWith(1999, 2000), 0);
        Check.due(goodWith(4000, 4002), 1);
        Check.due(goodWith(3999, 4001), 0);
        Check.due(goodWith(1, 1), 1);
        Check.due(goodWith(0, 0), 0);
        Check.due(goodWith(0, 1), 0);
        Check.due(goodWith(1, 0), 0);
    }

    private static int goodWith(int count, int one) {
        TrueLitres x = withMeters(1000);
        x.proof(0, 1, 1000);
        for (int i = 0; i < 5; i++) {
            int due = i == 2 ? one : count;
            Check.due(due == 0 ? x.run(1, 1000000, 1) : x.run(1, 1000, due), due);
        }
        return x.proving(1);
    }

    private static void factorRounded() {
        Check.promise(10);
        // 500 V K by five COUNTS of 200000 is half of V, by a sum one more a bit less.
        TrueLitres x = withMeters(1000);
        x.proof(0, 1, 200001);
        runs(x, 200000, 5);
        Check.due(x.accept(0), 100001);
        x.proof(0, 1, 200001);
        runs(x, 200000, 4);
        runs(x, 200001, 1);
        Check.due(x.accept(0), 100000);
        x.proof(0, 1, 200000);
        runs(x, 200000, 5);
        Check.due(x.accept(0), 100000);
        // 94999.5 is ROUNDED to 95000, 94999 is too little; 105000.5 is too much.
        Check.due(acceptedOf(189999), 95000);
        Check.due(acceptedOf(189998), NONE);
        Check.due(acceptedOf(210000), 105000);
        Check.due(acceptedOf(210001), NONE);
    }

    private static int acceptedOf(int vessel) {
        TrueLitres x = withMeters(1000);
        x.proof(0, 1, vessel);
        runs(x, 200000, 5);
        return x.accept(0);
    }

    private static void volumeRounded() {
        Check.promise(15);
        TrueLitres x = withMeters(100000);
        x.factor(0, 1, 0, 104999);
        x.factor(0, 2, 0, 105000);
        x.factor(0, 3, 0, 95001);
        // One pulse of 10.4999, of 10.5 and of 9.5001 ml.
        x.ticket(0, 0, 1, 1);
        x.ticket(0, 0, 1, 2);
        x.ticket(0, 0, 1, 3);
        Check.due(x.volume(0), 10);
        Check.due(x.volume(1), 11);
        Check.due(x.volume(2), 10);
        // 9.5 ml are 10, no pulse is nothing, 100001000.01 ml are 100001000.
        TrueLitres y = withMeters(100000, 99999);
        y.factor(0, 1, 0, 95000);
        y.ticket(0, 0, 1, 1);
        y.ticket(0, 0, 0, 1);
        y.ticket(1, 0, 10000000, 1);
        Check.due(y.volume(0), 10);
        Check.due(y.volume(1), 0);
        Check.due(y.volume(2), 100001000);
    }

    private static void lastTicket() {
        Check.promise(11);
        TrueLitres x = withMeters(1000);
        for (int t = 0; t < 40; t++) {
            Check.due(x.ticket(0, t, t, 1), t);
        }
        Check.due(x.ticket(0, 0, 0, 1), FULL);
        Check.due(x.ticketed(39, 3), 39);
        Check.due(x.ticketed(40, 3), UNKNOWN);
        Check.due(x.volume(39), 39000);
        Check.due(x.sum(0, 0, 39), 780000);
        Check.due(x.sum(0, 0, 38), 741000);
        Check.due(x.worth(39), 39);
        Check.due(x.as(39, 0), 1);
    }

    private static void roomForAll() {
        Check.promise(13);
        // Half of all TICKETS are REMADE: there is room for all of them, and for nothing more.
        TrueLitres x = withMeters(1000);
        for (int t = 0; t < 20; t++) {
            x.ticket(0, t, t, 1);
        }
        x.factor(0, 1, 0, 101000);
        Check.due(x.remake(0, 0, 400), 20);
        Check.due(x.told(1), 40);
        Check.due(x.told(2), 20);
        for (int t = 0; t < 20; t++) {
            Check.due(x.ticketed(t, 6), 20 + t);
            Check.due(x.ticketed(20 + t, 7), t);
            Check.due(x.ticketed(20 + t, 0), 2);
        }
        Check.due(x.remake(0, 0, 400), 0);
        x.factor(0, 1, 0, 102000);
        Check.due(x.remake(0, 0, 400), FULL);
        Check.due(x.remake(0, 400, 400), 0);
        // 21 of 41 are one too many: none is REMADE.
        TrueLitres y = withMeters(1000);
        for (int t = 0; t < 21; t++) {
            y.ticket(0, t, t, 1);
        }
        y.factor(0, 1, 0, 101000);
        Check.due(y.remake(0, 0, 400), FULL);
        Check.due(y.told(2), 21);
        Check.due(y.remake(0, 1, 19), 19);
        Check.due(y.told(1), 40);
    }

    private static void shutDays() {
        Check.promise(17);
        TrueLitres x = withMeters(1000);
        x.ticket(0, 0, 1, 1);
        x.ticket(0, 1, 1, 1);
        x.ticket(0, 400, 1, 1);
        x.factor(0, 1, 0, 101000);
        Check.due(x.shut(0), NONE);
        Check.due(x.right(0, 1), STATE);
        Check.due(x.remake(0, 0, 400), STATE);
        Check.due(x.right(1, 1), 3);
        Check.due(x.remake(0, 1, 400), 1);
        Check.due(x.shut(399), 0);
        Check.due(x.right(3, 1), STATE);
        Check.due(x.ticket(0, 399, 1, 1), STATE);
        Check.due(x.ticket(0, 400, 1, 1), 5);
        Check.due(x.remake(0, 399, 400), STATE);
        Check.due(x.remake(0, 400, 400), 0);
        Check.due(x.shut(400), 399);
        Check.due(x.ticket(0, 400, 1, 1), STATE);
        Check.due(x.right(5, 1), STATE);
        Check.due(x.remake(0, 400, 400), STATE);
        // What is SHUT still counts.
        Check.due(x.sum(0, 0, 400), 1000 + 1010 + 1010 + 1010);
        // FACTORS are not SHUT, be they given or proved, nor are the TICKETS changed by them.
        Check.due(x.factor(0, 1, 0, 102000), 2);
        x.proof(0, 1, 103000);
        runs(x, 100000, 5);
        Check.due(x.accept(0), 103000);
        Check.due(x.at(0, 1, 400), 103000);
        Check.due(x.sum(0, 0, 400), 1000 + 1010 + 1010 + 1010);
    }

    private static void endsCut() {
        Check.promise(21);
        // 99999 ml by END 1 are less than one ml, 100000 ml are one.
        TrueLitres x = withMeters(100000, 100000);
        x.factor(0, 1, 0, 99999);
        x.ticket(0, 0, 10000, 1);
        x.ticket(1, 0, 10000, 1);
        Check.due(x.volume(0), 99999);
        Check.due(x.volume(1), 100000);
        for (int l = 0; l < 2; l++) {
            x.line(l, l, 1);
            x.end(l, 1);
        }
        Check.due(x.balance(0, 0, 0, 1), 0);
        Check.due(x.balance(1, 0, 0, 1), 1);
        x.end(0, 5000);
        Check.due(x.balance(0, 0, 0, 1), 4999);
        x.line(0, 0, -1);
        Check.due(x.balance(0, 0, 0, 0), -99999);
        Check.due(x.balance(0, 0, 0, 1), 4999);
    }

    /** At LINE 0 METER 0 is IN and METER 1 OUT, with so many pulses of 100 ml; END of METER 0 is given, too. */
    private static TrueLitres withDrops(int in, int out, int end) {
        TrueLitres x = withMeters(10000, 10000, 10000);
        x.ticket(0, 0, in, 1);
        x.ticket(1, 0, out, 1);
        x.line(0, 0, 1);
        x.line(0, 1, -1);
        x.end(0, end);
        return x;
    }

    private static void justBeyond() {
        Check.promise(22);
        // 100000 ml by END 100 .. 99: ENDS of 100 and 99 ml, IMBALANCE of 100 ml either way.
        TrueLitres x = withDrops(1000, 999, 100);
        Check.due(x.balance(0, 0, 0, 0), 100);
        Check.due(x.balance(0, 0, 0, 1), 100);
        Check.due(x.beyond(0, 0), 0);
        x.end(0, 99);
        Check.due(x.beyond(0, 0), 1);
        TrueLitres y = withDrops(1000, 1001, 100);
        Check.due(y.balance(0, 0, 0, 0), -100);
        Check.due(y.beyond(0, 0), 0);
        y.end(0, 99);
        Check.due(y.beyond(0, 0), 1);
        // As much IN as OUT is never BEYOND, though there be no ENDS.
        Check.due(withDrops(1000, 1000, 0).beyond(0, 0), 0);
        Check.due(withDrops(0, 0, 5000).beyond(0, 0), 0);
        Check.due(new TrueLitres().beyond(0, 0), 0);
    }

    private static void nearestToNothing() {
        Check.promise(23);
        // One ml too far: one ml explains it, though many more would, too.
        TrueLitres x = withDrops(1000, 999, 99);
        Check.due(x.explains(0, 0, 0), -1);
        Check.due(x.explains(1, 0, 0), 1);
        Check.due(x.explains(2, 0, 0), 0);
        TrueLitres y = withDrops(1000, 1001, 99);
        Check.due(y.explains(0, 0, 0), 1);
        Check.due(y.explains(1, 0, 0), -1);
        // Nothing is BEYOND: 0, though some x would leave it so.
        y.end(0, 100);
        Check.due(y.explains(0, 0, 0), 0);
        Check.due(y.explains(1, 0, 0), 0);
        // Without ENDS one x alone is left.
        TrueLitres z = withDrops(1000, 1001, 0);
        Check.due(z.explains(0, 0, 0), 100);
        Check.due(z.explains(1, 0, 0), -100);
        // Another LINE of the METER leaves no x, one of other METERS leaves none either.
        z.line(3, 0, 1);
        Check.due(z.explains(0, 0, 0), 0);
        Check.due(z.explains(1, 0, 0), 0);
        z.line(3, 0, 0);
        Check.due(z.explains(1, 0, 0), -100);
    }

    private static void emptySheet() {
        Check.promise(29);
        TrueLitres x = new TrueLitres();
        Check.due(x.sheet(0, 2, 0), 1);
        Check.due(x.watch(0, 2, 0, 0, 0), 0);
        Check.due(x.watch(0, 2, 0, 0, 3), 0);
        Check.due(x.watch(0, 2, 0, 1, 0), -13);
        Check.due(x.watch(0, 2, 1, 0, 0), -13);
        Check.due(x.put(0, 0, 1), -13);
        Check.due(x.cell(0, 0, 2), LOST);
        Check.due(x.fault(), 3);
        Check.due(x.copy(0, 0, 0, 0, 0), 0);
        Check.due(x.fault(), 0);
        Check.due(x.copy(0, 0, 0, 0, 1), -13);
        // A row of no cells is a row: it is taken as no other LANE, and can be lost.
        Check.due(x.watch(0, 1, 0, 0, 0), -12);
        Check.due(x.cell(0, 0, 1), LOST);
        Check.due(x.fault(), 2);
        Check.due(x.lose(0), 1);
        Check.due(x.lose(0), 0);
        Check.due(x.watch(0, 1, 0, 0, 0), -11);
    }

    private static void longestSheet() {
        Check.promise(24);
        TrueLitres x = new TrueLitres();
        Check.due(x.sheet(3, 2, 60), 1);
        Check.due(x.sheet(2, 2, 60), 1);
        for (int i = 0; i < 60; i++) {
            Check.due(x.cell(3, i, 2), 0);
            Check.due(x.put(3, i, Integer.MAX_VALUE - i), 1);
        }
        Check.due(x.put(3, 60, 0), -13);
        Check.due(x.copy(3, 0, 2, 0, 60), 60);
        for (int i = 0; i < 60; i++) {
            Check.due(x.cell(2, i, 2), Integer.MAX_VALUE - i);
        }
        Check.due(x.copy(3, 0, 3, 1, 59), 59);
        Check.due(x.copy(3, 0, 3, 1, 60), -13);
        Check.due(x.cell(3, 59, 2), Integer.MAX_VALUE - 58);
        Check.due(x.cell(3, 0, 2), Integer.MAX_VALUE);
        Check.due(x.sheet(3, 2, 60), 1);
        Check.due(x.cell(3, 59, 2), 0);
    }

    private static void mostSlips() {
        Check.promise(29);
        TrueLitres x = new TrueLitres();
        x.sheet(0, 0, 60);
        for (int i = 0; i < 60; i++) {
            x.put(0, i, 2);
        }
        Check.due(x.watch(0, 0, 0, 60, 0), 60);
        Check.due(x.watch(0, 0, 0, 60, 1), 30);
        Check.due(x.watch(0, 0, 0, 60, 2), 29);
        Check.due(x.watch(0, 0, 0, 60, 3), 61);
        Check.due(x.watch(0, 0, 0, 59, 3), 59);
        Check.due(x.watch(0, 0, 59, 1, 0), 1);
        Check.due(x.watch(0, 0, 59, 1, 1), 0);
        Check.due(x.watch(0, 0, 60, 0, 0), 0);
        // Just beside the two ROWS there is no pulse.
        x.put(0, 0, 0);
        x.put(0, 1, 3);
        x.put(0, 2, -1);
        x.put(0, 3, 1);
        Check.due(x.watch(0, 0, 0, 3, 0), 0);
        Check.due(x.watch(0, 0, 0, 5, 0), 2);
        Check.due(x.watch(0, 0, 0, 5, 1), 0);
    }

    private static void tellingOfFirstAndLastDay() {
        Check.promise(30);
        TrueLitres x = withMeters(1000);
        x.ticket(0, 0, 1, 1);
        x.ticket(0, 400, 1, 1);
        x.right(0, 1);
        x.right(1, 1);
        x.factor(0, 1, 0, 101000);
        x.remake(0, 0, 400);
        int[] due = {0, 400, 1000, 1400, -1, -401};
        for (int t = 0; t < due.length; t++) {
            Check.due(x.tell(t), due[t]);
        }
        Check.due(x.tell(6), UNKNOWN);
    }

    private static void greatestWorth() {
        Check.promise(31);
        TrueLitres x = withMeters(1, 1);
        x.factor(0, 1, 0, 104478);
        x.factor(1, 1, 0, 102400);
        x.ticket(0, 0, 2055441, 1);
        x.ticket(1, 0, 2097152, 1);
        x.ticket(0, 0, 10000000, 1);
        Check.due(x.volume(0), 2147483647980L);
        Check.due(x.worth(0), Integer.MAX_VALUE);
        Check.due(x.volume(1), 2147483648000L);
        Check.due(x.worth(1), Integer.MAX_VALUE);
        Check.due(x.volume(2), 10447800000000L);
        Check.due(x.worth(2), Integer.MAX_VALUE);
        x.ticket(1, 0, 2097151, 1);
        Check.due(x.worth(3), 2147482624);
        // 999 ml are no litre, 1000 are one, no pulse is none; REMADE it is one, whatever it is.
        TrueLitres y = withMeters(100000);
        y.factor(0, 1, 0, 99900);
        y.ticket(0, 0, 100, 1);
        y.ticket(0, 0, 100, 1);
        y.ticket(0, 0, 0, 1);
        y.factor(0, 1, 0, 100000);
        Check.due(y.volume(0), 999);
        Check.due(y.worth(0), 0);
        Check.due(y.right(1, 100), 3);
        Check.due(y.volume(3), 1000);
        Check.due(y.worth(3), 1);
        Check.due(y.worth(2), 0);
        Check.due(y.remake(0, 0, 0), 2);
        Check.due(y.worth(4), 1);
        Check.due(y.volume(5), 0);
        Check.due(y.worth(5), 1);
    }

    private static void traceWraps() {
        Check.promise(33);
        TrueLitres x = withMeters(1000);
        x.ticket(0, 1, 2000, 1);
        long whole = 0;
        boolean wasBelow = false;
        for (int i = 0; i < 12; i++) {
            x.worth(0);
            whole = (31 * whole + 4) % (1L << 32);
            long due = whole >= 1L << 31 ? whole - (1L << 32) : whole;
            wasBelow |= due < 0;
            Check.due(x.trace(), due);
        }
        Check.dueTrue(wasBelow, "it went beyond the greatest int");
    }
}
