import java.util.Arrays;

/**
 * True litres: meters that give pulses, the proofs and factors that make litres of them,
 * tickets of what went through, lines of meters, and pulses watched on sheets.
 * What each call answers is told in ../shared/DOC.md, whose words are used here.
 */
public final class TrueLitres {
    public static final int UNKNOWN = -1, OUTSIDE = -2, STATE = -3, FULL = -4, NONE = -9;
    public static final long LOST = Long.MIN_VALUE;

    private static final int NULL = 1, CAST = 2, INDEX = 3, SIZE = 4;
    private static final int TICKET = 0, PUT_RIGHT = 1, REMADE = 2;
    private static final int BYTES = 0, SHORTS = 1, INTS = 2;
    private static final int MOST_METERS = 6, MOST_FACTORS = 12, MOST_RUNS = 12, MOST_TICKETS = 40;
    private static final int LINES = 4, SHEETS = 4, MOST_CELLS = 60;
    private static final int LAST_DAY = 400, MOST_FLOW = 10000, MOST_END = 5000;
    private static final int MOST_PULSES_A_CUBE = 100000, MOST_TICKET_PULSES = 10000000;
    private static final int LEAST_VESSEL = 1000, MOST_VESSEL = 1000000;
    private static final int MOST_RUN_PULSES = 100000, MOST_TIME = 1000000;
    private static final int LEAST_FACTOR = 95000, MOST_FACTOR = 105000, WHOLE = 100000;
    private static final int RUNS_COMPARED = 5;
    private static final int GREATEST_INT = 0x7fffffff;
    /** In ml: what no SUM, nor all of them together, comes near to. */
    private static final long FAR = 1L << 60;

    private final Meter[] meters = new Meter[MOST_METERS];
    private int meterCount = 0;
    private final Proof latestProof = new Proof();
    private final Ticket[] tickets = new Ticket[MOST_TICKETS];
    private int ticketCount = 0;
    private int shutUpTo = NONE;
    private final Sheet[] sheets = new Sheet[SHEETS];
    private int traced = 0;
    private int latestFault = 0;

    public TrueLitres() {
        for (int k = 0; k < SHEETS; k++) {
            sheets[k] = new Sheet();
        }
    }

    // ---- 1 meters, proofs

    public int meter(int k) {
        if (!isWithin(k, 1, MOST_PULSES_A_CUBE)) {
            return OUTSIDE;
        }
        if (meterCount >= MOST_METERS) {
            return FULL;
        }
        meters[meterCount] = new Meter(k);
        meterCount++;
        return meterCount - 1;
    }

    public int factor(int m, int flow, int day, int f) {
        if (!isMeter(m)) {
            return UNKNOWN;
        }
        if (!isFlow(flow) || !isDay(day) || !isWithin(f, LEAST_FACTOR, MOST_FACTOR)) {
            return OUTSIDE;
        }
        Meter meter = meters[m];
        if (meter.isFull()) {
            return FULL;
        }
        meter.takeFactor(flow, day, f);
        return meter.factorCount;
    }

    public int at(int m, int flow, int day) {
        if (!isMeter(m)) {
            return UNKNOWN;
        }
        if (!isFlow(flow) || !isDay(day)) {
            return OUTSIDE;
        }
        return meters[m].factorAt(flow, day);
    }

    public int points(int m, int day) {
        if (!isMeter(m)) {
            return UNKNOWN;
        }
        if (!isDay(day)) {
            return OUTSIDE;
        }
        return meters[m].curveSize(day);
    }

    public int point(int m, int day, int i, int what) {
        if (!isMeter(m)) {
            return UNKNOWN;
        }
        // The place comes ahead of the day, as UNKNOWN is told ahead of OUTSIDE.
        int place = meters[m].curvePlace(day, i);
        if (place == NONE) {
            return UNKNOWN;
        }
        if (!isDay(day) || !isWithin(what, 0, 1)) {
            return OUTSIDE;
        }
        return what == 0 ? meters[m].flows[place] : meters[m].numbers[place];
    }

    public int proof(int m, int flow, int v) {
        if (!isMeter(m)) {
            return UNKNOWN;
        }
        if (!isFlow(flow) || !isWithin(v, LEAST_VESSEL, MOST_VESSEL)) {
            return OUTSIDE;
        }
        latestProof.begin(m, flow, v);
        return 1;
    }

    public long run(int n, int t1, int t2) {
        if (!isWithin(n, 1, MOST_RUN_PULSES) || !isWithin(t1, 1, MOST_TIME) || !isWithin(t2, 1, MOST_TIME)) {
            return LOST;
        }
        if (!latestProof.isBegun || latestProof.runCount >= MOST_RUNS) {
            return LOST;
        }
        long count = 1000L * n * t2 / t1;
        latestProof.counts[latestProof.runCount] = count;
        latestProof.runCount++;
        return count;
    }

    public int proving(int what) {
        if (!isWithin(what, 0, 3)) {
            return OUTSIDE;
        }
        if (!latestProof.isBegun) {
            return STATE;
        }
        switch (what) {
            case 0: return latestProof.runCount;
            case 1: return latestProof.isGood() ? 1 : 0;
            case 2: return latestProof.meter;
            default: return latestProof.flow;
        }
    }

    public int accept(int day) {
        if (!isDay(day)) {
            return OUTSIDE;
        }
        if (!latestProof.isBegun || !latestProof.isGood()) {
            return STATE;
        }
        Meter meter = meters[latestProof.meter];
        long factor = latestProof.factorOf(meter.k);
        if (factor < LEAST_FACTOR || factor > MOST_FACTOR) {
            return NONE;
        }
        if (meter.isFull()) {
            return FULL;
        }
        meter.takeFactor(latestProof.flow, day, (int) factor);
        latestProof.isBegun = false;
        return (int) factor;
    }

    // ---- 2 tickets

    public int ticket(int m, int day, int pulses, int flow) {
        if (!isMeter(m)) {
            return UNKNOWN;
        }
        if (!isDay(day) || !isWithin(pulses, 0, MOST_TICKET_PULSES) || !isFlow(flow)) {
            return OUTSIDE;
        }
        if (isShut(day)) {
            return STATE;
        }
        if (ticketCount >= MOST_TICKETS) {
            return FULL;
        }
        keep(new Ticket(m, day, pulses, flow, meters[m].factorAt(flow, day)));
        return ticketCount - 1;
    }

    public int right(int t, int pulses) {
        if (!isTicket(t)) {
            return UNKNOWN;
        }
        if (!isWithin(pulses, 0, MOST_TICKET_PULSES)) {
            return OUTSIDE;
        }
        if (tickets[t].isReplaced() || isShut(tickets[t].day)) {
            return STATE;
        }
        if (ticketCount >= MOST_TICKETS) {
            return FULL;
        }
        replace(t, PUT_RIGHT, pulses);
        return ticketCount - 1;
    }

    public int remake(int m, int from, int to) {
        if (!isMeter(m)) {
            return UNKNOWN;
        }
        if (!areDays(from, to)) {
            return OUTSIDE;
        }
        if (isShut(from)) {
            return STATE;
        }
        // What is remade comes behind, by the factor of now, and is not remade again.
        int before = ticketCount;
        int due = 0;
        for (int t = 0; t < before; t++) {
            due += isToRemake(tickets[t], m, from, to) ? 1 : 0;
        }
        if (due > MOST_TICKETS - before) {
            return FULL;
        }
        for (int t = 0; t < before; t++) {
            if (isToRemake(tickets[t], m, from, to)) {
                replace(t, REMADE, tickets[t].pulses);
            }
        }
        return due;
    }

    public int ticketed(int t, int what) {
        if (!isTicket(t)) {
            return UNKNOWN;
        }
        Ticket ticket = tickets[t];
        switch (what) {
            case 0: return ticket.kind;
            case 1: return ticket.meter;
            case 2: return ticket.day;
            case 3: return ticket.pulses;
            case 4: return ticket.flow;
            case 5: return ticket.factor;
            case 6: return ticket.replacedBy;
            case 7: return ticket.inPlaceOf;
            default: return OUTSIDE;
        }
    }

    public long volume(int t) {
        return isTicket(t) ? volumeOf(tickets[t]) : LOST;
    }

    public long sum(int m, int from, int to) {
        return isMeter(m) && areDays(from, to) ? sumOf(m, from, to) : LOST;
    }

    public int shut(int day) {
        if (!isDay(day) || day < shutUpTo) {
            return OUTSIDE;
        }
        int before = shutUpTo;
        shutUpTo = day;
        return before;
    }

    // ---- 3 lines

    public int line(int l, int m, int how) {
        if (!isLine(l) || !isMeter(m)) {
            return UNKNOWN;
        }
        if (!isWithin(how, -1, 1)) {
            return OUTSIDE;
        }
        int before = meters[m].hows[l];
        meters[m].hows[l] = how;
        return before == how ? 0 : 1;
    }

    public int lined(int l, int m) {
        return isLine(l) && isMeter(m) ? 10 + meters[m].hows[l] : UNKNOWN;
    }

    public int end(int m, int u) {
        if (!isMeter(m)) {
            return UNKNOWN;
        }
        if (!isWithin(u, 0, MOST_END)) {
            return OUTSIDE;
        }
        int before = meters[m].end;
        meters[m].end = u;
        return before;
    }

    public long balance(int l, int from, int to, int which) {
        if (!isLine(l) || !isWithin(which, 0, 1) || !areDays(from, to)) {
            return LOST;
        }
        return which == 0 ? imbalanceOf(l, from, to) : endsOf(l, from, to);
    }

    public int beyond(int from, int to) {
        return areDays(from, to) ? linesBeyond(from, to) : OUTSIDE;
    }

    public long explains(int m, int from, int to) {
        if (!isMeter(m) || !areDays(from, to)) {
            return LOST;
        }
        int beyondNow = linesBeyond(from, to);
        long least = -FAR, most = FAR;
        for (int l = 0; l < LINES; l++) {
            int how = meters[m].hows[l];
            if (how != 0) {
                long needed = -how * imbalanceOf(l, from, to);
                long ends = endsOf(l, from, to);
                least = Math.max(least, needed - ends);
                most = Math.min(most, needed + ends);
            } else if ((beyondNow >> l & 1) == 1) {
                return 0;
            }
        }
        if (beyondNow == 0 || least > most) {
            return 0;
        }
        // As some line is beyond now, 0 is not in least .. most: one end is the nearest.
        return least > 0 ? least : most;
    }

    // ---- 4 sheets, parts

    public int sheet(int k, int lane, int n) {
        latestFault = 0;
        if (!isSheet(k)) {
            return UNKNOWN;
        }
        if (!isLane(lane) || n > MOST_CELLS) {
            return OUTSIDE;
        }
        if (n < 0) {
            return fail(SIZE);
        }
        sheets[k].renew(lane, n);
        return 1;
    }

    public int lose(int k) {
        if (!isSheet(k)) {
            return UNKNOWN;
        }
        int had = sheets[k].hasRow ? 1 : 0;
        sheets[k].hasRow = false;
        return had;
    }

    public int put(int k, int i, int v) {
        latestFault = 0;
        if (!isSheet(k)) {
            return UNKNOWN;
        }
        if (!sheets[k].hasRow) {
            return fail(NULL);
        }
        if (!sheets[k].hasCell(i)) {
            return fail(INDEX);
        }
        sheets[k].fillIn(i, v);
        return 1;
    }

    public long cell(int k, int i, int lane) {
        latestFault = 0;
        if (!isSheet(k) || !isLane(lane)) {
            return LOST;
        }
        latestFault = sheets[k].faultAs(lane);
        if (latestFault == 0 && !sheets[k].hasCell(i)) {
            latestFault = INDEX;
        }
        return latestFault == 0 ? sheets[k].cells[i] : LOST;
    }

    public int copy(int k, int i, int other, int j, int n) {
        latestFault = 0;
        if (!isSheet(k) || !isSheet(other)) {
            return UNKNOWN;
        }
        Sheet source = sheets[k], target = sheets[other];
        if (!source.hasRow || !target.hasRow) {
            return fail(NULL);
        }
        if (source.lane != target.lane) {
            return fail(CAST);
        }
        if (!source.hasCells(i, n) || !target.hasCells(j, n)) {
            return fail(INDEX);
        }
        System.arraycopy(source.cells, i, target.cells, j, n);
        return n;
    }

    public int watch(int k, int lane, int i, int n, int what) {
        latestFault = 0;
        if (!isSheet(k)) {
            return UNKNOWN;
        }
        if (!isLane(lane) || !isWithin(what, 0, 3)) {
            return OUTSIDE;
        }
        int fault = sheets[k].faultAs(lane);
        if (fault != 0) {
            return fail(fault);
        }
        if (n < 0) {
            return fail(SIZE);
        }
        if (!sheets[k].hasCells(i, n)) {
            return fail(INDEX);
        }
        return sheets[k].watched(i, n, what);
    }

    public int tell(int t) {
        if (!isTicket(t)) {
            return UNKNOWN;
        }
        switch (tickets[t].kind) {
            case PUT_RIGHT:
                leave(2);
                return 1000 + tellTicket(tickets[t]);
            case REMADE:
                leave(3);
                return -tellTicket(tickets[t]) - 1;
            default:
                return tellTicket(tickets[t]);
        }
    }

    public int worth(int t) {
        if (!isTicket(t)) {
            return UNKNOWN;
        }
        if (tickets[t].kind == REMADE) {
            leave(5);
            return 1;
        }
        leave(4);
        return (int) Math.min(volumeOf(tickets[t]) / 1000, GREATEST_INT);
    }

    public int as(int t, int kind) {
        latestFault = 0;
        if (!isTicket(t)) {
            return UNKNOWN;
        }
        if (!isWithin(kind, TICKET, REMADE)) {
            return OUTSIDE;
        }
        // Each kind is one of every kind of a lower number too.
        return tickets[t].kind >= kind ? 1 : fail(CAST);
    }

    public int trace() {
        return traced;
    }

    public int fault() {
        return latestFault;
    }

    public int told(int what) {
        switch (what) {
            case 0: return meterCount;
            case 1: return ticketCount;
            case 2: return countNotReplaced();
            case 3: return shutUpTo;
            default: return isMeter(what - 10) ? meters[what - 10].factorCount : OUTSIDE;
        }
    }

    // ---- what is as told

    private static boolean isWithin(int number, int least, int most) {
        return number >= least && number <= most;
    }

    private static boolean isDay(int day) {
        return isWithin(day, 0, LAST_DAY);
    }

    private static boolean areDays(int from, int to) {
        return isDay(from) && isDay(to) && from <= to;
    }

    private static boolean isFlow(int flow) {
        return isWithin(flow, 1, MOST_FLOW);
    }

    private static boolean isLine(int l) {
        return isWithin(l, 0, LINES - 1);
    }

    private static boolean isSheet(int k) {
        return isWithin(k, 0, SHEETS - 1);
    }

    private static boolean isLane(int lane) {
        return isWithin(lane, BYTES, INTS);
    }

    private boolean isMeter(int m) {
        return isWithin(m, 0, meterCount - 1);
    }

    private boolean isTicket(int t) {
        return isWithin(t, 0, ticketCount - 1);
    }

    private boolean isShut(int day) {
        return day <= shutUpTo;
    }

    // ---- parts of the calls

    /** Quotient ROUNDED, of what is not below 0; by what is 0 or less there is none, 0 stands for it. */
    private static long rounded(long number, long by) {
        if (by <= 0) {
            return 0;
        }
        return (2 * number + by) / (2 * by);
    }

    private int fail(int fault) {
        latestFault = fault;
        return -10 - fault;
    }

    private void leave(int number) {
        traced = 31 * traced + number;
    }

    private int tellTicket(Ticket ticket) {
        leave(1);
        return ticket.day;
    }

    private void keep(Ticket ticket) {
        tickets[ticketCount] = ticket;
        ticketCount++;
    }

    private void replace(int t, int kind, int pulses) {
        Ticket old = tickets[t];
        Ticket anew = new Ticket(old.meter, old.day, pulses, old.flow, factorNow(old));
        anew.kind = kind;
        anew.inPlaceOf = t;
        old.replacedBy = ticketCount;
        keep(anew);
    }

    private int factorNow(Ticket ticket) {
        return meters[ticket.meter].factorAt(ticket.flow, ticket.day);
    }

    private boolean isToRemake(Ticket ticket, int m, int from, int to) {
        return ticket.counts(m, from, to) && ticket.factor != factorNow(ticket);
    }

    private long volumeOf(Ticket ticket) {
        return rounded(10L * ticket.pulses * ticket.factor, meters[ticket.meter].k);
    }

    private long sumOf(int m, int from, int to) {
        long all = 0;
        for (int t = 0; t < ticketCount; t++) {
            if (tickets[t].counts(m, from, to)) {
                all += volumeOf(tickets[t]);
            }
        }
        return all;
    }

    private int countNotReplaced() {
        int count = 0;
        for (int t = 0; t < ticketCount; t++) {
            count += tickets[t].isReplaced() ? 0 : 1;
        }
        return count;
    }

    private long imbalanceOf(int l, int from, int to) {
        long all = 0;
        for (int m = 0; m < meterCount; m++) {
            all += meters[m].hows[l] * sumOf(m, from, to);
        }
        return all;
    }

    private long endsOf(int l, int from, int to) {
        long all = 0;
        for (int m = 0; m < meterCount; m++) {
            if (meters[m].hows[l] != 0) {
                all += sumOf(m, from, to) * meters[m].end / WHOLE;
            }
        }
        return all;
    }

    private int linesBeyond(int from, int to) {
        int bits = 0;
        for (int l = 0; l < LINES; l++) {
            if (Math.abs(imbalanceOf(l, from, to)) > endsOf(l, from, to)) {
                bits |= 1 << l;
            }
        }
        return bits;
    }

    /**
     * A METER with its FACTORS, which stand by FLOW, then by DAY, then as they came:
     * so the one that holds for a FLOW on a DAY is the last of that FLOW up to the DAY.
     */
    private static final class Meter {
        final int k;
        int end = 0;
        final int[] hows = new int[LINES];
        final int[] flows = new int[MOST_FACTORS];
        final int[] days = new int[MOST_FACTORS];
        final int[] numbers = new int[MOST_FACTORS];
        int factorCount = 0;

        Meter(int k) {
            this.k = k;
        }

        boolean isFull() {
            return factorCount >= MOST_FACTORS;
        }

        /** Only when it is not full. */
        void takeFactor(int flow, int day, int number) {
            int place = factorCount;
            while (place > 0 && standsBehind(place - 1, flow, day)) {
                flows[place] = flows[place - 1];
                days[place] = days[place - 1];
                numbers[place] = numbers[place - 1];
                place--;
            }
            flows[place] = flow;
            days[place] = day;
            numbers[place] = number;
            factorCount++;
        }

        boolean standsBehind(int place, int flow, int day) {
            return flows[place] > flow || flows[place] == flow && days[place] > day;
        }

        boolean isOnCurve(int place, int day) {
            if (days[place] > day) {
                return false;
            }
            int next = place + 1;
            return next >= factorCount || flows[next] != flows[place] || days[next] > day;
        }

        int curveSize(int day) {
            int size = 0;
            for (int place = 0; place < factorCount; place++) {
                size += isOnCurve(place, day) ? 1 : 0;
            }
            return size;
        }

        /** Where the i-th point of THE CURVE stands among the FACTORS, or NONE. */
        int curvePlace(int day, int i) {
            int ahead = 0;
            for (int place = 0; place < factorCount; place++) {
                if (isOnCurve(place, day)) {
                    if (ahead == i) {
                        return place;
                    }
                    ahead++;
                }
            }
            return NONE;
        }

        int factorAt(int flow, int day) {
            int below = NONE, above = NONE;
            for (int place = 0; place < factorCount; place++) {
                if (isOnCurve(place, day)) {
                    if (flows[place] <= flow) {
                        below = place;
                    }
                    if (flows[place] >= flow && above == NONE) {
                        above = place;
                    }
                }
            }
            if (below == NONE) {
                return above == NONE ? WHOLE : numbers[above];
            }
            return above == NONE ? numbers[below] : between(below, above, flow);
        }

        int between(int below, int above, int flow) {
            int apart = flows[above] - flows[below];
            if (apart == 0) {
                return numbers[below];
            }
            return numbers[below] + (numbers[above] - numbers[below]) * (flow - flows[below]) / apart;
        }
    }

    /** The one PROOF, begun or not, with the COUNTS of its RUNS. */
    private static final class Proof {
        boolean isBegun = false;
        int meter = 0;
        int flow = 0;
        int vessel = 0;
        final long[] counts = new long[MOST_RUNS];
        int runCount = 0;

        void begin(int meter, int flow, int vessel) {
            this.isBegun = true;
            this.meter = meter;
            this.flow = flow;
            this.vessel = vessel;
            this.runCount = 0;
        }

        boolean isGood() {
            if (runCount < RUNS_COMPARED) {
                return false;
            }
            long least = counts[runCount - 1], greatest = least;
            for (int i = runCount - RUNS_COMPARED; i < runCount; i++) {
                least = Math.min(least, counts[i]);
                greatest = Math.max(greatest, counts[i]);
            }
            return least > 0 && 2000 * (greatest - least) <= least;
        }

        /** Only when it is GOOD. */
        long factorOf(int k) {
            long all = 0;
            for (int i = Math.max(0, runCount - RUNS_COMPARED); i < runCount; i++) {
                all += counts[i];
            }
            return rounded(500L * vessel * k, all);
        }
    }

    /** A TICKET of any kind; replace() makes those that are not plain ones. */
    private static final class Ticket {
        final int meter;
        final int day;
        final int pulses;
        final int flow;
        final int factor;
        int kind = TICKET;
        int replacedBy = NONE;
        int inPlaceOf = NONE;

        Ticket(int meter, int day, int pulses, int flow, int factor) {
            this.meter = meter;
            this.day = day;
            this.pulses = pulses;
            this.flow = flow;
            this.factor = factor;
        }

        boolean isReplaced() {
            return replacedBy != NONE;
        }

        boolean counts(int m, int from, int to) {
            return meter == m && isWithin(day, from, to) && !isReplaced();
        }
    }

    /**
     * A SHEET that has a row or nothing. Ints hold the cells of every LANE,
     * cut to it as they come, so that one array serves all rows the SHEET ever has.
     */
    private static final class Sheet {
        final int[] cells = new int[MOST_CELLS];
        boolean hasRow = false;
        int lane = BYTES;
        int length = 0;

        void renew(int lane, int length) {
            Arrays.fill(cells, 0);
            this.hasRow = true;
            this.lane = lane;
            this.length = length;
        }

        boolean hasCell(int i) {
            return isWithin(i, 0, length - 1);
        }

        /** The lengths are taken from one another, as i + n may be above the greatest int. */
        boolean hasCells(int i, int n) {
            return isWithin(i, 0, length) && isWithin(n, 0, length - i);
        }

        void fillIn(int i, int v) {
            switch (lane) {
                case BYTES:
                    cells[i] = (byte) v;
                    break;
                case SHORTS:
                    cells[i] = (short) v;
                    break;
                default:
                    cells[i] = v;
            }
        }

        /** The FAULT that taking it as a row of a LANE comes to, or 0: nothing is no CAST. */
        int faultAs(int otherLane) {
            if (!hasRow) {
                return NULL;
            }
            return lane == otherLane ? 0 : CAST;
        }

        int watched(int i, int n, int what) {
            int pulses = 0, lost = 0, untrue = 0, slips = 0, ahead = 0;
            for (int place = i; place < i + n; place++) {
                int row = cells[place];
                if (row == 1 || row == 2) {
                    pulses++;
                    slips = row == ahead ? slips + 1 : 0;
                    ahead = row;
                    if (slips % 2 == 1) {
                        lost++;
                    } else if (slips > 0) {
                        untrue++;
                    }
                }
            }
            switch (what) {
                case 0: return pulses;
                case 1: return lost;
                case 2: return untrue;
                default: return pulses + lost - untrue;
            }
        }
    }
}
