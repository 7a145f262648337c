import java.lang.reflect.Array;
import java.math.BigInteger;
import java.util.ArrayList;
import java.util.Arrays;
import java.util.List;
import java.util.Map;
import java.util.TreeMap;

/**
 * The document once more, for comparison: written apart from the program, by lists, maps and numbers without bounds,
 * as near to the document's words as can be. Every call has the name that it has there.
 */
final class Model {
    private static final long LOST = Long.MIN_VALUE;
    private static final int UNKNOWN = -1, OUTSIDE = -2, STATE = -3, FULL = -4, NONE = -9;
    private static final int NULL = 1, CAST = 2, INDEX = 3, SIZE = 4;

    record Factor(int flow, int day, int number) {
    }

    static final class Meter {
        final int k;
        final List<Factor> factors = new ArrayList<>();
        final int[] how = new int[4];
        int end = 0;

        Meter(int k) {
            this.k = k;
        }
    }

    static final class Ticket {
        int kind, meter, day, pulses, flow, f, replacedBy = NONE, replaced = NONE;
    }

    private final List<Meter> meters = new ArrayList<>();
    private final List<Ticket> tickets = new ArrayList<>();
    private final Object[] sheets = new Object[4];
    private List<BigInteger> counts = null;
    private int proofMeter, proofFlow, proofVessel;
    private int shut = NONE, trace = 0, fault = 0;

    // ---- 1

    int meter(int k) {
        if (k < 1 || k > 100000) {
            return OUTSIDE;
        }
        if (meters.size() == 6) {
            return FULL;
        }
        meters.add(new Meter(k));
        return meters.size() - 1;
    }

    int factor(int m, int flow, int day, int f) {
        if (isNot(m, meters)) {
            return UNKNOWN;
        }
        if (isNoFlow(flow) || isNoDay(day) || f < 95000 || f > 105000) {
            return OUTSIDE;
        }
        if (meters.get(m).factors.size() == 12) {
            return FULL;
        }
        meters.get(m).factors.add(new Factor(flow, day, f));
        return meters.get(m).factors.size();
    }

    int at(int m, int flow, int day) {
        if (isNot(m, meters)) {
            return UNKNOWN;
        }
        return isNoFlow(flow) || isNoDay(day) ? OUTSIDE : theFactor(m, flow, day);
    }

    int points(int m, int day) {
        if (isNot(m, meters)) {
            return UNKNOWN;
        }
        return isNoDay(day) ? OUTSIDE : curve(m, day).size();
    }

    int point(int m, int day, int i, int what) {
        if (isNot(m, meters)) {
            return UNKNOWN;
        }
        List<Map.Entry<Integer, Integer>> places = new ArrayList<>(curve(m, day).entrySet());
        if (isNot(i, places)) {
            return UNKNOWN;
        }
        if (isNoDay(day) || what < 0 || what > 1) {
            return OUTSIDE;
        }
        return what == 0 ? places.get(i).getKey() : places.get(i).getValue();
    }

    int proof(int m, int flow, int v) {
        if (isNot(m, meters)) {
            return UNKNOWN;
        }
        if (isNoFlow(flow) || v < 1000 || v > 1000000) {
            return OUTSIDE;
        }
        counts = new ArrayList<>();
        proofMeter = m;
        proofFlow = flow;
        proofVessel = v;
        return 1;
    }

    long run(int n, int t1, int t2) {
        boolean isOutside = n < 1 || n > 100000 || t1 < 1 || t1 > 1000000 || t2 < 1 || t2 > 1000000;
        if (isOutside || counts == null || counts.size() == 12) {
            return LOST;
        }
        counts.add(product(n, 1000, t2).divide(big(t1)));
        return counts.get(counts.size() - 1).longValueExact();
    }

    int proving(int what) {
        if (what < 0 || what > 3) {
            return OUTSIDE;
        }
        if (counts == null) {
            return STATE;
        }
        int good = isGood() ? 1 : 0;
        return new int[] {counts.size(), good, proofMeter, proofFlow}[what];
    }

    int accept(int day) {
        if (isNoDay(day)) {
            return OUTSIDE;
        }
        if (counts == null || !isGood()) {
            return STATE;
        }
        BigInteger all = latestFive().stream().reduce(BigInteger.ZERO, BigInteger::add);
        BigInteger factor = rounded(product(500, proofVessel, meters.get(proofMeter).k), all);
        if (factor.compareTo(big(95000)) < 0 || factor.compareTo(big(105000)) > 0) {
            return NONE;
        }
        int number = factor.intValueExact();
        if (factor(proofMeter, proofFlow, day, number) == FULL) {
            return FULL;
        }
        counts = null;
        return number;
    }

    // ---- 2

    int ticket(int m, int day, int pulses, int flow) {
        if (isNot(m, meters)) {
            return UNKNOWN;
        }
        if (isNoDay(day) || areNoPulses(pulses) || isNoFlow(flow)) {
            return OUTSIDE;
        }
        if (shut != NONE && day <= shut) {
            return STATE;
        }
        return tickets.size() == 40 ? FULL : add(0, m, day, pulses, flow);
    }

    int right(int t, int pulses) {
        if (isNot(t, tickets)) {
            return UNKNOWN;
        }
        if (areNoPulses(pulses)) {
            return OUTSIDE;
        }
        Ticket old = tickets.get(t);
        if (old.replacedBy != NONE || shut != NONE && old.day <= shut) {
            return STATE;
        }
        return tickets.size() == 40 ? FULL : replace(t, 1, pulses);
    }

    int remake(int m, int from, int to) {
        if (isNot(m, meters)) {
            return UNKNOWN;
        }
        if (areNoDays(from, to)) {
            return OUTSIDE;
        }
        if (shut != NONE && from <= shut) {
            return STATE;
        }
        List<Integer> due = new ArrayList<>();
        for (int t = 0; t < tickets.size(); t++) {
            Ticket one = tickets.get(t);
            if (isSummed(one, m, from, to) && one.f != theFactor(m, one.flow, one.day)) {
                due.add(t);
            }
        }
        if (tickets.size() + due.size() > 40) {
            return FULL;
        }
        for (int t : due) {
            replace(t, 2, tickets.get(t).pulses);
        }
        return due.size();
    }

    int ticketed(int t, int what) {
        if (isNot(t, tickets)) {
            return UNKNOWN;
        }
        Ticket one = tickets.get(t);
        int[] all = {one.kind, one.meter, one.day, one.pulses, one.flow, one.f, one.replacedBy, one.replaced};
        return what < 0 || what > 7 ? OUTSIDE : all[what];
    }

    long volume(int t) {
        return isNot(t, tickets) ? LOST : volumeOf(tickets.get(t)).longValueExact();
    }

    long sum(int m, int from, int to) {
        return isNot(m, meters) || areNoDays(from, to) ? LOST : sumOf(m, from, to).longValueExact();
    }

    int shut(int day) {
        if (isNoDay(day) || shut != NONE && day < shut) {
            return OUTSIDE;
        }
        int was = shut;
        shut = day;
        return was;
    }

    // ---- 3

    int line(int l, int m, int how) {
        if (l < 0 || l > 3 || isNot(m, meters)) {
            return UNKNOWN;
        }
        if (how < -1 || how > 1) {
            return OUTSIDE;
        }
        if (meters.get(m).how[l] == how) {
            return 0;
        }
        meters.get(m).how[l] = how;
        return 1;
    }

    int lined(int l, int m) {
        return l < 0 || l > 3 || isNot(m, meters) ? UNKNOWN : 10 + meters.get(m).how[l];
    }

    int end(int m, int u) {
        if (isNot(m, meters)) {
            return UNKNOWN;
        }
        if (u < 0 || u > 5000) {
            return OUTSIDE;
        }
        int was = meters.get(m).end;
        meters.get(m).end = u;
        return was;
    }

    long balance(int l, int from, int to, int which) {
        if (l < 0 || l > 3 || which < 0 || which > 1 || areNoDays(from, to)) {
            return LOST;
        }
        return (which == 0 ? imbalance(l, from, to) : ends(l, from, to)).longValueExact();
    }

    int beyond(int from, int to) {
        if (areNoDays(from, to)) {
            return OUTSIDE;
        }
        int bits = 0;
        for (int l = 0; l < 4; l++) {
            bits += isBeyond(imbalance(l, from, to), ends(l, from, to)) ? 1 << l : 0;
        }
        return bits;
    }

    long explains(int m, int from, int to) {
        if (isNot(m, meters) || areNoDays(from, to)) {
            return LOST;
        }
        if (beyond(from, to) == 0) {
            return 0;
        }
        // As x grows, a LINE begins or ceases to be BEYOND at no other x than these.
        List<BigInteger> tried = new ArrayList<>();
        for (int l = 0; l < 4; l++) {
            BigInteger off = imbalance(l, from, to), ends = ends(l, from, to);
            tried.addAll(List.of(off.add(ends), off.subtract(ends), ends.subtract(off), off.add(ends).negate()));
        }
        BigInteger best = BigInteger.ZERO;
        for (BigInteger x : tried) {
            boolean isNearer = best.signum() == 0 || x.abs().compareTo(best.abs()) < 0
                || x.abs().equals(best.abs()) && x.signum() > 0;
            if (x.signum() != 0 && isNearer && isNoneBeyond(m, x, from, to)) {
                best = x;
            }
        }
        return best.longValueExact();
    }

    // ---- 4

    int sheet(int k, int lane, int n) {
        fault = 0;
        if (k < 0 || k > 3) {
            return UNKNOWN;
        }
        if (lane < 0 || lane > 2 || n > 60) {
            return OUTSIDE;
        }
        if (n < 0) {
            return comesTo(SIZE);
        }
        sheets[k] = lane == 0 ? new byte[n] : lane == 1 ? new short[n] : new int[n];
        return 1;
    }

    int lose(int k) {
        if (k < 0 || k > 3) {
            return UNKNOWN;
        }
        int had = sheets[k] == null ? 0 : 1;
        sheets[k] = null;
        return had;
    }

    int put(int k, int i, int v) {
        fault = 0;
        if (k < 0 || k > 3) {
            return UNKNOWN;
        }
        if (sheets[k] == null) {
            return comesTo(NULL);
        }
        if (i < 0 || i >= length(sheets[k])) {
            return comesTo(INDEX);
        }
        set(sheets[k], i, v);
        return 1;
    }

    long cell(int k, int i, int lane) {
        fault = 0;
        if (k < 0 || k > 3 || lane < 0 || lane > 2) {
            return LOST;
        }
        if (sheets[k] != null && lane(sheets[k]) != lane) {
            comesTo(CAST);
        } else if (sheets[k] == null) {
            comesTo(NULL);
        } else if (i < 0 || i >= length(sheets[k])) {
            comesTo(INDEX);
        } else {
            return Array.getLong(sheets[k], i);
        }
        return LOST;
    }

    int copy(int k, int i, int other, int j, int n) {
        fault = 0;
        if (k < 0 || k > 3 || other < 0 || other > 3) {
            return UNKNOWN;
        }
        Object from = sheets[k], to = sheets[other];
        if (from == null || to == null) {
            return comesTo(NULL);
        }
        if (lane(from) != lane(to)) {
            return comesTo(CAST);
        }
        boolean isBelow = i < 0 || j < 0 || n < 0;
        if (isBelow || (long) i + n > length(from) || (long) j + n > length(to)) {
            return comesTo(INDEX);
        }
        int[] asTheyWere = new int[n];
        for (int c = 0; c < n; c++) {
            asTheyWere[c] = Array.getInt(from, i + c);
        }
        for (int c = 0; c < n; c++) {
            set(to, j + c, asTheyWere[c]);
        }
        return n;
    }

    int watch(int k, int lane, int i, int n, int what) {
        fault = 0;
        if (k < 0 || k > 3) {
            return UNKNOWN;
        }
        if (lane < 0 || lane > 2 || what < 0 || what > 3) {
            return OUTSIDE;
        }
        if (sheets[k] != null && lane(sheets[k]) != lane) {
            return comesTo(CAST);
        }
        if (sheets[k] == null) {
            return comesTo(NULL);
        }
        if (n < 0) {
            return comesTo(SIZE);
        }
        if (i < 0 || (long) i + n > length(sheets[k])) {
            return comesTo(INDEX);
        }
        StringBuilder rows = new StringBuilder();
        for (int at = i; at < i + n; at++) {
            int cell = Array.getInt(sheets[k], at);
            rows.append(cell == 1 ? "A" : cell == 2 ? "B" : "");
        }
        return watched(rows.toString(), what);
    }

    int tell(int t) {
        if (isNot(t, tickets)) {
            return UNKNOWN;
        }
        int day = tickets.get(t).day;
        int kind = tickets.get(t).kind;
        if (kind > 0) {
            leave(kind + 1);
        }
        leave(1);
        return kind == 0 ? day : kind == 1 ? 1000 + day : -day - 1;
    }

    int worth(int t) {
        if (isNot(t, tickets)) {
            return UNKNOWN;
        }
        if (tickets.get(t).kind == 2) {
            leave(5);
            return 1;
        }
        leave(4);
        return volumeOf(tickets.get(t)).divide(big(1000)).min(big(Integer.MAX_VALUE)).intValueExact();
    }

    int as(int t, int kind) {
        fault = 0;
        if (isNot(t, tickets)) {
            return UNKNOWN;
        }
        if (kind < 0 || kind > 2) {
            return OUTSIDE;
        }
        boolean isOne = List.of(List.of(0), List.of(0, 1), List.of(0, 1, 2)).get(tickets.get(t).kind).contains(kind);
        return isOne ? 1 : comesTo(CAST);
    }

    int trace() {
        return trace;
    }

    int fault() {
        return fault;
    }

    int told(int what) {
        Map<Integer, Integer> all = new TreeMap<>();
        all.put(0, meters.size());
        all.put(1, tickets.size());
        all.put(2, (int) tickets.stream().filter(t -> t.replacedBy == NONE).count());
        all.put(3, shut);
        for (int m = 0; m < meters.size(); m++) {
            all.put(10 + m, meters.get(m).factors.size());
        }
        return all.getOrDefault(what, OUTSIDE);
    }

    // ---- terms

    private static boolean isNot(int i, List<?> of) {
        return i < 0 || i >= of.size();
    }

    private static boolean isNoDay(int day) {
        return day < 0 || day > 400;
    }

    private static boolean areNoDays(int from, int to) {
        return isNoDay(from) || isNoDay(to) || from > to;
    }

    private static boolean isNoFlow(int flow) {
        return flow < 1 || flow > 10000;
    }

    private static boolean areNoPulses(int pulses) {
        return pulses < 0 || pulses > 10000000;
    }

    private static BigInteger big(long number) {
        return BigInteger.valueOf(number);
    }

    private static BigInteger product(long... numbers) {
        return Arrays.stream(numbers).mapToObj(Model::big).reduce(BigInteger.ONE, BigInteger::multiply);
    }

    /** To the nearest, halves up. */
    private static BigInteger rounded(BigInteger number, BigInteger by) {
        BigInteger[] parts = number.divideAndRemainder(by);
        boolean isUp = parts[1].shiftLeft(1).compareTo(by) >= 0;
        return isUp ? parts[0].add(BigInteger.ONE) : parts[0];
    }

    private TreeMap<Integer, Integer> curve(int m, int day) {
        TreeMap<Integer, Factor> latest = new TreeMap<>();
        for (Factor one : meters.get(m).factors) {
            Factor other = latest.get(one.flow());
            if (one.day() <= day && (other == null || one.day() >= other.day())) {
                latest.put(one.flow(), one);
            }
        }
        TreeMap<Integer, Integer> numbers = new TreeMap<>();
        latest.forEach((flow, one) -> numbers.put(flow, one.number()));
        return numbers;
    }

    private int theFactor(int m, int flow, int day) {
        TreeMap<Integer, Integer> curve = curve(m, day);
        Map.Entry<Integer, Integer> x = curve.floorEntry(flow), y = curve.ceilingEntry(flow);
        if (x == null && y == null) {
            return 100000;
        }
        if (x == null || y == null) {
            return (x == null ? y : x).getValue();
        }
        if (x.getKey().equals(y.getKey())) {
            return x.getValue();
        }
        BigInteger rise = product(y.getValue() - x.getValue(), flow - x.getKey());
        return x.getValue() + rise.divide(big(y.getKey() - x.getKey())).intValueExact();
    }

    private List<BigInteger> latestFive() {
        return counts.subList(counts.size() - 5, counts.size());
    }

    private boolean isGood() {
        if (counts.size() < 5) {
            return false;
        }
        BigInteger least = latestFive().stream().min(BigInteger::compareTo).orElseThrow();
        BigInteger greatest = latestFive().stream().max(BigInteger::compareTo).orElseThrow();
        return least.signum() > 0 && greatest.subtract(least).multiply(big(2000)).compareTo(least) <= 0;
    }

    private int add(int kind, int m, int day, int pulses, int flow) {
        Ticket one = new Ticket();
        one.kind = kind;
        one.meter = m;
        one.day = day;
        one.pulses = pulses;
        one.flow = flow;
        one.f = theFactor(m, flow, day);
        tickets.add(one);
        return tickets.size() - 1;
    }

    private int replace(int t, int kind, int pulses) {
        Ticket old = tickets.get(t);
        int anew = add(kind, old.meter, old.day, pulses, old.flow);
        old.replacedBy = anew;
        tickets.get(anew).replaced = t;
        return anew;
    }

    private BigInteger volumeOf(Ticket one) {
        return rounded(product(10, one.pulses, one.f), big(meters.get(one.meter).k));
    }

    private static boolean isSummed(Ticket one, int m, int from, int to) {
        return one.meter == m && one.day >= from && one.day <= to && one.replacedBy == NONE;
    }

    private BigInteger sumOf(int m, int from, int to) {
        return tickets.stream().filter(t -> isSummed(t, m, from, to)).map(this::volumeOf)
            .reduce(BigInteger.ZERO, BigInteger::add);
    }

    private BigInteger imbalance(int l, int from, int to) {
        BigInteger all = BigInteger.ZERO;
        for (int m = 0; m < meters.size(); m++) {
            all = all.add(sumOf(m, from, to).multiply(big(meters.get(m).how[l])));
        }
        return all;
    }

    private BigInteger ends(int l, int from, int to) {
        BigInteger all = BigInteger.ZERO;
        for (int m = 0; m < meters.size(); m++) {
            if (meters.get(m).how[l] != 0) {
                all = all.add(sumOf(m, from, to).multiply(big(meters.get(m).end)).divide(big(100000)));
            }
        }
        return all;
    }

    private static boolean isBeyond(BigInteger imbalance, BigInteger ends) {
        return imbalance.compareTo(ends) > 0 || imbalance.compareTo(ends.negate()) < 0;
    }

    private boolean isNoneBeyond(int m, BigInteger more, int from, int to) {
        for (int l = 0; l < 4; l++) {
            BigInteger moved = imbalance(l, from, to).add(more.multiply(big(meters.get(m).how[l])));
            if (isBeyond(moved, ends(l, from, to))) {
                return false;
            }
        }
        return true;
    }

    private int comesTo(int which) {
        fault = which;
        return -10 - which;
    }

    private void leave(int number) {
        trace = 31 * trace + number;
    }

    private static int length(Object row) {
        return Array.getLength(row);
    }

    private static void set(Object row, int i, int v) {
        if (row instanceof byte[] bytes) {
            bytes[i] = (byte) v;
        } else if (row instanceof short[] shorts) {
            shorts[i] = (short) v;
        } else if (row instanceof int[] ints) {
            ints[i] = v;
        }
    }

    private static int lane(Object row) {
        return row instanceof byte[] ? 0 : row instanceof short[] ? 1 : 2;
    }

    /** Each stretch of one letter is a pulse and its SLIPS, one behind the other. */
    private static int watched(String rows, int what) {
        int lost = 0, untrue = 0, at = 0;
        while (at < rows.length()) {
            int begin = at;
            while (at < rows.length() && rows.charAt(at) == rows.charAt(begin)) {
                at++;
            }
            int slips = at - begin - 1;
            lost += (slips + 1) / 2;
            untrue += slips / 2;
        }
        int pulses = rows.length();
        return new int[] {pulses, lost, untrue, pulses + lost - untrue}[what];
    }
}
