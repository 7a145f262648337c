/** Objects that stand as a test wants them, the same each time. */
final class Worlds {
    private Worlds() {
    }

    /**
     * Some of everything, nothing full. METER 0: FACTORS at 100 (from day 5), 200 (0) and 300 (10); METER 1: one.
     * TICKETS 0 (day 10), 2 (day 20, PUT RIGHT, of 1) and 4 (day 30, REMADE, of 3) count; 5 is of day 3, and all is
     * SHUT up to 5. SHEETS 0 and 2 are bytes (5 and 3), 1 shorts (4), 3 nothing. The PROOF is GOOD: 100000.
     * The latest FAULT is INDEX, TRACE is not 0.
     */
    static TrueLitres some() {
        TrueLitres x = new TrueLitres();
        x.meter(1000);
        x.meter(777);
        x.factor(0, 100, 5, 101000);
        x.factor(0, 300, 10, 99000);
        x.factor(1, 50, 0, 104000);
        x.ticket(0, 10, 500, 100);
        x.ticket(1, 20, 300, 60);
        x.right(1, 310);
        x.ticket(0, 30, 40, 200);
        x.factor(0, 200, 0, 98000);
        x.remake(0, 30, 30);
        x.ticket(0, 3, 7, 9);
        x.shut(5);
        x.line(0, 0, 1);
        x.line(0, 1, -1);
        x.line(2, 1, 1);
        x.end(0, 100);
        x.end(1, 2000);
        sheets(x);
        goodProof(x, 5);
        x.tell(4);
        x.put(0, 99, 0);
        return x;
    }

    /**
     * 6 METERS, all at LINE 3 (METER 1 OUT), 12 FACTORS of METER 0, 12 RUNS, 40 TICKETS: 0 and 1 (days 10 and 11)
     * would be REMADE. All is SHUT up to day 5, of which TICKET 2 is; TICKET 3 is REPLACED by 39.
     */
    static TrueLitres full() {
        TrueLitres x = new TrueLitres();
        for (int m = 0; m < 6; m++) {
            x.meter(1000);
            x.line(3, m, m == 1 ? -1 : 1);
            x.end(m, 5000 - m);
        }
        x.ticket(0, 10, 50, 100);
        x.ticket(0, 11, 60, 100);
        x.ticket(1, 5, 60, 100);
        while (x.told(1) < 39) {
            x.ticket(1, 10, 1, 1);
        }
        x.right(3, 2);
        for (int i = 0; i < 12; i++) {
            x.factor(0, 100 + i, 0, 101000);
        }
        x.shut(5);
        goodProof(x, 12);
        sheets(x);
        x.put(0, 99, 0);
        return x;
    }

    /** As some(), but there is no PROOF any more. */
    static TrueLitres unproved() {
        TrueLitres x = some();
        x.accept(400);
        x.put(0, 99, 0);
        return x;
    }

    /** A PROOF of METER 0 with as many RUNS; its FACTOR would be 100000 by five. */
    private static void goodProof(TrueLitres x, int runs) {
        x.proof(0, 100, 100000);
        for (int i = 0; i < runs; i++) {
            x.run(1, 1000, 100000);
        }
    }

    private static void sheets(TrueLitres x) {
        x.sheet(0, 0, 5);
        x.sheet(1, 1, 4);
        x.sheet(2, 0, 3);
        for (int i = 0; i < 3; i++) {
            x.put(0, i, i + 1);
            x.put(1, i, 1000 + i);
            x.put(2, i, -i);
        }
    }
}
