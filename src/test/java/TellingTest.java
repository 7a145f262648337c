import java.util.List;

/** Promises 30 to 33: the telling, the worth and the kind of a ticket, and the trace. */
final class TellingTest {
    private static final int UNKNOWN = TrueLitres.UNKNOWN, OUTSIDE = TrueLitres.OUTSIDE;
    private static final int CAST = -12;

    private TellingTest() {
    }

    static void run() {
        tell();
        worth();
        as();
        trace();
        traceWraps();
        nothingButTrace();
    }

    /** Ticket 0 of day 7 put right by 1, which is remade by 2. */
    private static TrueLitres withEachKind() {
        TrueLitres x = new TrueLitres();
        x.meter(1000);
        x.ticket(0, 7, 5, 1);
        x.right(0, 6);
        x.factor(0, 1, 0, 101000);
        x.remake(0, 0, 400);
        return x;
    }

    private static void tell() {
        Check.promise(30);
        TrueLitres x = withEachKind();
        Check.due(x.tell(0), 7);
        Check.due(x.trace(), 1);
        x = withEachKind();
        Check.due(x.tell(1), 1007);
        Check.due(x.trace(), 31 * 2 + 1);
        x = withEachKind();
        Check.due(x.tell(2), -8);
        Check.due(x.trace(), 31 * 3 + 1);
        Check.due(x.tell(3), UNKNOWN);
        Check.due(x.tell(-1), UNKNOWN);
        Check.due(x.trace(), 31 * 3 + 1);
        x.ticket(0, 0, 0, 1);
        Check.due(x.tell(3), 0);
        x.factor(0, 1, 0, 102000);
        x.remake(0, 0, 0);
        Check.due(x.tell(4), -1);
    }

    private static void worth() {
        Check.promise(31);
        TrueLitres x = withEachKind();
        Check.due(x.worth(0), 5);
        Check.due(x.trace(), 4);
        x = withEachKind();
        Check.due(x.worth(1), 6);
        Check.due(x.trace(), 4);
        x = withEachKind();
        Check.due(x.worth(2), 1);
        Check.due(x.trace(), 5);
        Check.due(x.worth(3), UNKNOWN);
        Check.due(x.worth(-1), UNKNOWN);
        Check.due(x.trace(), 5);
        TrueLitres y = new TrueLitres();
        y.meter(100000);
        y.meter(4);
        y.ticket(0, 0, 99, 1);
        y.ticket(0, 0, 199, 1);
        Check.due(y.volume(0), 990);
        Check.due(y.worth(0), 0);
        Check.due(y.volume(1), 1990);
        Check.due(y.worth(1), 1);
        // 2147483500, then 2147483750 litres: the greatest int lies between.
        y.ticket(1, 0, 8589934, 1);
        y.ticket(1, 0, 8589935, 1);
        Check.due(y.worth(2), 2147483500);
        Check.due(y.volume(3), 2147483750000L);
        Check.due(y.worth(3), Integer.MAX_VALUE);
    }

    private static void as() {
        Check.promise(32);
        TrueLitres x = withEachKind();
        for (int t = 0; t < 3; t++) {
            for (int kind = 0; kind < 3; kind++) {
                boolean isOne = kind <= t;
                Check.due(x.as(t, kind), isOne ? 1 : CAST);
                Check.due(x.fault(), isOne ? 0 : 2);
            }
        }
        x.as(0, 2);
        Check.due(x.as(3, 0), UNKNOWN);
        Check.due(x.fault(), 0);
        Check.due(x.as(-1, 3), UNKNOWN);
        x.as(0, 2);
        Check.due(x.as(0, 3), OUTSIDE);
        Check.due(x.fault(), 0);
        Check.due(x.as(0, -1), OUTSIDE);
        Check.due(x.as(2, 3), OUTSIDE);
    }

    private static void trace() {
        Check.promise(33);
        TrueLitres x = withEachKind();
        Check.due(x.trace(), 0);
        x.tell(0);
        x.worth(0);
        Check.due(x.trace(), 35);
        x.volume(0);
        x.ticketed(0, 0);
        x.as(0, 0);
        Check.due(x.trace(), 35);
        x.tell(2);
        Check.due(x.trace(), (35 * 31 + 3) * 31 + 1);
    }

    private static void traceWraps() {
        Check.promise(33);
        TrueLitres x = withEachKind();
        int due = 0;
        for (int i = 0; i < 100; i++) {
            Check.due(x.worth(i % 3), i % 3 == 2 ? 1 : 5 + i % 3);
            due = 31 * due + (i % 3 == 2 ? 5 : 4);
            Check.due(x.trace(), due);
        }
    }

    private static void nothingButTrace() {
        for (int t = 0; t < 6; t++) {
            Check.promise(30);
            TrueLitres x = Worlds.some();
            x.tell(t);
            dueNothingButTrace(x);
            Check.promise(31);
            x = Worlds.some();
            x.worth(t);
            dueNothingButTrace(x);
        }
    }

    private static void dueNothingButTrace(TrueLitres x) {
        TrueLitres twin = Worlds.some();
        Check.due(x.fault(), twin.fault());
        Check.dueTrue(x.trace() != twin.trace(), "a body leaves its number in TRACE");
        List<Long> now = State.of(x), before = State.of(twin);
        Check.dueTrue(now.subList(1, now.size()).equals(before.subList(1, before.size())),
            "nothing but TRACE is changed");
    }
}
