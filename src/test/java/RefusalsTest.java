/**
 * Every call that can be refused or come to a FAULT, promise by promise: each number just within and just beside
 * what is told, of several reasons the one that the line tells first, and that nothing else is changed by it.
 */
final class RefusalsTest {
    private static final int UNKNOWN = TrueLitres.UNKNOWN, OUTSIDE = TrueLitres.OUTSIDE;
    private static final int STATE = TrueLitres.STATE, FULL = TrueLitres.FULL, NONE = TrueLitres.NONE;
    private static final int NULL = -11, CAST = -12, INDEX = -13, SIZE = -14;
    private static final int LEAST = Integer.MIN_VALUE, GREATEST = Integer.MAX_VALUE;

    private RefusalsTest() {
    }

    static void run() {
        ofMeters();
        ofPoints();
        ofProofs();
        ofAccept();
        ofTickets();
        ofTicketsThatAreFull();
        ofDays();
        ofLines();
        ofBalances();
        ofSheets();
        ofSheetsTaken();
        ofCopy();
        ofParts();
    }

    private static Asked some(String name, Asked.Call call) {
        return Asked.call(name, Worlds::some, call);
    }

    private static Asked full(String name, Asked.Call call) {
        return Asked.call(name, Worlds::full, call);
    }

    // What is as told in Worlds.some().

    private static Asked.Place meters() {
        return Asked.within(0, 1, UNKNOWN).or(UNKNOWN, 5, 6);
    }

    private static Asked.Place days() {
        return Asked.within(0, 400, OUTSIDE);
    }

    private static Asked.Place flows() {
        return Asked.within(1, 10000, OUTSIDE);
    }

    private static Asked.Place tickets() {
        return Asked.within(0, 5, UNKNOWN).or(UNKNOWN, 39, 40);
    }

    private static Asked.Place fours() {
        return Asked.within(0, 3, UNKNOWN);
    }

    private static void ofMeters() {
        Check.promise(2);
        Asked.Place ks = Asked.within(1, 100000, OUTSIDE);
        some("meter", (x, n) -> x.meter(n[0])).order(OUTSIDE, FULL).with(ks);
        full("meter", (x, n) -> x.meter(n[0])).order(OUTSIDE, FULL).standing(FULL).with(ks);
        Check.promise(3);
        Asked.Place numbers = Asked.within(95000, 105000, OUTSIDE);
        some("factor", (x, n) -> x.factor(n[0], n[1], n[2], n[3])).order(UNKNOWN, OUTSIDE, FULL)
            .with(meters(), flows(), days(), numbers);
        full("factor", (x, n) -> x.factor(n[0], n[1], n[2], n[3])).order(UNKNOWN, OUTSIDE, FULL)
            .with(Asked.good(1, 5).or(FULL, 0).or(UNKNOWN, -1, 6), flows(), days(), numbers);
        Check.promise(4);
        some("at", (x, n) -> x.at(n[0], n[1], n[2])).onlyTells().order(UNKNOWN, OUTSIDE)
            .with(meters(), flows(), days());
        Check.promise(5);
        some("points", (x, n) -> x.points(n[0], n[1])).onlyTells().order(UNKNOWN, OUTSIDE).with(meters(), days());
    }

    private static void ofPoints() {
        Check.promise(6);
        Asked.Place three = Asked.within(0, 2, UNKNOWN);
        Asked.Place one = Asked.good(0).or(UNKNOWN, -1, 2, 6, LEAST, GREATEST);
        some("point", (x, n) -> x.point(n[0], n[1], n[2], n[3])).onlyTells().order(UNKNOWN, OUTSIDE)
            .with(one, Asked.good(10, 400), three, Asked.within(0, 1, OUTSIDE));
        some("point", (x, n) -> x.point(n[0], n[1], n[2], n[3])).onlyTells().order(UNKNOWN, OUTSIDE)
            .with(one, Asked.good(10, 400).or(OUTSIDE, 401, GREATEST), Asked.good(0, 2), Asked.within(0, 1, OUTSIDE));
        for (int day : new int[] {-1, LEAST}) {
            TrueLitres x = Worlds.some();
            int got = x.point(0, day, 0, 0);
            // It is no day, and has no place either: the document does not tell the two apart.
            Check.dueTrue(got == OUTSIDE || got == UNKNOWN, "a day below 0 has no point: " + got);
        }
    }

    private static void ofProofs() {
        Check.promise(7);
        some("proof", (x, n) -> x.proof(n[0], n[1], n[2])).order(UNKNOWN, OUTSIDE)
            .with(meters(), flows(), Asked.within(1000, 1000000, OUTSIDE));
        Check.promise(8);
        Asked.Place pulses = Asked.within(1, 100000, OUTSIDE);
        Asked.Place times = Asked.within(1, 1000000, OUTSIDE);
        Asked.Call run = (x, n) -> x.run(n[0], n[1], n[2]);
        some("run", run).answersLong().order(OUTSIDE, STATE, FULL).with(pulses, times, times);
        full("run", run).answersLong().order(OUTSIDE, STATE, FULL).standing(FULL).with(pulses, times, times);
        Asked.call("run", TrueLitres::new, run).answersLong().order(OUTSIDE, STATE).standing(STATE)
            .with(pulses, times, times);
        Asked.call("run", Worlds::unproved, run).answersLong().order(OUTSIDE, STATE).standing(STATE)
            .with(pulses, times, times);
        Check.promise(9);
        Asked.Place whats = Asked.within(0, 3, OUTSIDE);
        some("proving", (x, n) -> x.proving(n[0])).onlyTells().order(OUTSIDE, STATE).with(whats);
        Asked.call("proving", TrueLitres::new, (x, n) -> x.proving(n[0])).order(OUTSIDE, STATE).standing(STATE)
            .with(whats);
        Asked.call("proving", Worlds::unproved, (x, n) -> x.proving(n[0])).order(OUTSIDE, STATE).standing(STATE)
            .with(whats);
    }

    /** As full(), with a PROOF of METER 0 that has RUNS of these COUNTS. */
    private static TrueLitres fullAndProved(int vessel, int... counts) {
        TrueLitres x = Worlds.full();
        x.proof(0, 100, vessel);
        for (int count : counts) {
            x.run(1, 1000, count);
        }
        return x;
    }

    private static void ofAccept() {
        Check.promise(10);
        Asked.Call accept = (x, n) -> x.accept(n[0]);
        int[] order = {OUTSIDE, STATE, NONE, FULL};
        some("accept", accept).order(order).with(days());
        full("accept", accept).order(order).standing(FULL).with(days());
        Asked.call("accept", TrueLitres::new, accept).order(order).standing(STATE).with(days());
        Asked.call("accept", Worlds::unproved, accept).order(order).standing(STATE).with(days());
        // Not GOOD, and by five RUNS its FACTOR would be far off, in a METER that is full: STATE is told first.
        Asked.call("accept of four runs", () -> fullAndProved(1000, 100000, 100000, 100000, 100000), accept)
            .order(order).standing(STATE).with(days());
        Asked.call("accept of runs apart", () -> fullAndProved(1000, 100000, 100000, 100000, 100000, 100051), accept)
            .order(order).standing(STATE).with(days());
        // GOOD, but the FACTOR is off: NONE ahead of FULL.
        Asked.call("accept of 94999", () -> fullAndProved(94999, 100000, 100000, 100000, 100000, 100000), accept)
            .order(order).standing(NONE).with(days());
        Asked.call("accept of 105001", () -> fullAndProved(105001, 100000, 100000, 100000, 100000, 100000), accept)
            .order(order).standing(NONE).with(days());
        Asked.call("accept of 95000", () -> fullAndProved(95000, 100000, 100000, 100000, 100000, 100000), accept)
            .order(order).standing(FULL).with(days());
        Asked.call("accept of 105000", () -> fullAndProved(105000, 100000, 100000, 100000, 100000, 100000), accept)
            .order(order).standing(FULL).with(days());
    }

    private static void ofTickets() {
        Check.promise(11);
        Asked.Place pulses = Asked.within(0, 10000000, OUTSIDE);
        some("ticket", (x, n) -> x.ticket(n[0], n[1], n[2], n[3])).order(UNKNOWN, OUTSIDE, STATE, FULL)
            .with(meters(), Asked.good(6, 400).or(OUTSIDE, -1, 401, LEAST, GREATEST).or(STATE, 0, 5), pulses, flows());
        Check.promise(12);
        Asked.Place counted = Asked.good(0, 2, 4).or(STATE, 1, 3, 5).or(UNKNOWN, -1, 6, 39, 40, LEAST, GREATEST);
        some("right", (x, n) -> x.right(n[0], n[1])).order(UNKNOWN, OUTSIDE, STATE, FULL).with(counted, pulses);
        Check.promise(14);
        some("ticketed", (x, n) -> x.ticketed(n[0], n[1])).onlyTells().order(UNKNOWN, OUTSIDE)
            .with(tickets(), Asked.within(0, 7, OUTSIDE));
        Check.promise(15);
        some("volume", (x, n) -> x.volume(n[0])).onlyTells().answersLong().order(UNKNOWN).with(tickets());
    }

    private static void ofTicketsThatAreFull() {
        Asked.Place pulses = Asked.within(0, 10000000, OUTSIDE);
        Check.promise(11);
        full("ticket", (x, n) -> x.ticket(n[0], n[1], n[2], n[3])).order(UNKNOWN, OUTSIDE, STATE, FULL).standing(FULL)
            .with(Asked.within(0, 5, UNKNOWN), Asked.good(6).or(OUTSIDE, -1, 401).or(STATE, 0, 5),
                pulses, Asked.good(1).or(OUTSIDE, 0, 10001));
        Check.promise(12);
        Asked.Place counted = Asked.good(0, 39).or(STATE, 2, 3).or(UNKNOWN, -1, 40, LEAST, GREATEST);
        full("right", (x, n) -> x.right(n[0], n[1])).order(UNKNOWN, OUTSIDE, STATE, FULL).standing(FULL)
            .with(counted, pulses);
        Check.promise(13);
        // Of METER 0 two are due, of METER 1 none: there is room for all of none.
        full("remake", (x, n) -> x.remake(n[0], n[1], n[2])).order(UNKNOWN, OUTSIDE, STATE, FULL)
            .with(Asked.good(1, 5).or(FULL, 0).or(UNKNOWN, -1, 6),
                Asked.good(6, 10).or(OUTSIDE, -1, 401).or(STATE, 0, 5), Asked.good(11, 400).or(OUTSIDE, -1, 401));
    }

    private static void ofDays() {
        Asked.Place froms = Asked.good(0, 200).or(OUTSIDE, -1, 401, LEAST, GREATEST);
        Asked.Place tos = Asked.good(200, 400).or(OUTSIDE, -1, 401, LEAST, GREATEST);
        Check.promise(13);
        Asked.Place froms13 = Asked.good(6, 200).or(OUTSIDE, -1, 401, LEAST, GREATEST).or(STATE, 0, 5);
        some("remake", (x, n) -> x.remake(n[0], n[1], n[2])).order(UNKNOWN, OUTSIDE, STATE, FULL)
            .with(meters(), froms13, tos);
        some("remake backwards", (x, n) -> x.remake(n[0], n[1], n[2])).order(UNKNOWN, OUTSIDE, STATE, FULL)
            .with(meters(), Asked.good().or(OUTSIDE, 5, 200, 400), Asked.good(0, 4));
        Check.promise(16);
        some("sum", (x, n) -> x.sum(n[0], n[1], n[2])).onlyTells().answersLong().order(UNKNOWN, OUTSIDE)
            .with(meters(), froms, tos);
        some("sum backwards", (x, n) -> x.sum(n[0], n[1], n[2])).onlyTells().answersLong().order(UNKNOWN, OUTSIDE)
            .with(meters(), Asked.good().or(OUTSIDE, 1, 400), Asked.good(0));
        Check.promise(17);
        some("shut", (x, n) -> x.shut(n[0])).order(OUTSIDE)
            .with(Asked.within(5, 400, OUTSIDE).or(OUTSIDE, -1, 0, NONE));
        Asked.call("shut", TrueLitres::new, (x, n) -> x.shut(n[0])).order(OUTSIDE)
            .with(days().or(OUTSIDE, NONE, NONE - 1));
    }

    private static void ofLines() {
        Check.promise(18);
        some("line", (x, n) -> x.line(n[0], n[1], n[2])).order(UNKNOWN, OUTSIDE)
            .with(fours(), meters(), Asked.within(-1, 1, OUTSIDE).and(0));
        Check.promise(19);
        some("lined", (x, n) -> x.lined(n[0], n[1])).onlyTells().order(UNKNOWN).with(fours(), meters());
        Check.promise(20);
        some("end", (x, n) -> x.end(n[0], n[1])).order(UNKNOWN, OUTSIDE).with(meters(), Asked.within(0, 5000, OUTSIDE));
    }

    private static void ofBalances() {
        Asked.Place froms = Asked.good(0, 200).or(OUTSIDE, -1, 401, LEAST, GREATEST);
        Asked.Place tos = Asked.good(200, 400).or(OUTSIDE, -1, 401, LEAST, GREATEST);
        Asked.Place late = Asked.good().or(OUTSIDE, 1, 400);
        Check.promise(21);
        Asked.Call balance = (x, n) -> x.balance(n[0], n[1], n[2], n[3]);
        some("balance", balance).onlyTells().answersLong().order(UNKNOWN, OUTSIDE)
            .with(fours(), froms, tos, Asked.within(0, 1, OUTSIDE));
        some("balance backwards", balance).answersLong().order(UNKNOWN, OUTSIDE)
            .with(fours(), late, Asked.good(0), Asked.within(0, 1, OUTSIDE));
        Check.promise(22);
        some("beyond", (x, n) -> x.beyond(n[0], n[1])).onlyTells().order(OUTSIDE).with(froms, tos);
        some("beyond backwards", (x, n) -> x.beyond(n[0], n[1])).order(OUTSIDE).with(late, Asked.good(0));
        Check.promise(23);
        Asked.Call explains = (x, n) -> x.explains(n[0], n[1], n[2]);
        some("explains", explains).onlyTells().answersLong().order(UNKNOWN, OUTSIDE).with(meters(), froms, tos);
        some("explains backwards", explains).answersLong().order(UNKNOWN, OUTSIDE).with(meters(), late, Asked.good(0));
    }

    private static void ofSheets() {
        Check.promise(24);
        some("sheet", (x, n) -> x.sheet(n[0], n[1], n[2])).namesFaults().order(UNKNOWN, OUTSIDE, SIZE)
            .with(fours(), Asked.within(0, 2, OUTSIDE),
                Asked.good(0, 60).or(OUTSIDE, 61, GREATEST).or(SIZE, -1, LEAST));
        Check.promise(25);
        some("lose", (x, n) -> x.lose(n[0])).order(UNKNOWN).with(fours());
        Check.promise(26);
        some("put", (x, n) -> x.put(n[0], n[1], n[2])).namesFaults().order(UNKNOWN, NULL, INDEX)
            .with(sheetsOrNothing(), Asked.within(0, 4, INDEX).or(INDEX, 59, 60), Asked.good(0, LEAST, GREATEST));
    }

    /** SHEET 0, of five bytes; 3 has nothing. */
    private static Asked.Place sheetsOrNothing() {
        return Asked.good(0).or(NULL, 3).or(UNKNOWN, -1, 4, LEAST, GREATEST);
    }

    private static void ofSheetsTaken() {
        Check.promise(27);
        Asked.Call cell = (x, n) -> x.cell(n[0], n[1], n[2]);
        Asked.Place cells = Asked.within(0, 4, INDEX).or(INDEX, 59, 60);
        some("cell", cell).onlyTells().answersLong().namesFaults().order(UNKNOWN, OUTSIDE, CAST, NULL, INDEX)
            .with(Asked.good(0).or(UNKNOWN, -1, 4), cells,
                Asked.good(0).or(CAST, 1, 2).or(OUTSIDE, -1, 3, LEAST, GREATEST));
        // Nothing is no CAST: of nothing every LANE is taken.
        Asked.Place lanes = Asked.within(0, 2, OUTSIDE).and(1);
        some("cell of nothing", cell).answersLong().namesFaults().order(UNKNOWN, OUTSIDE, NULL, INDEX)
            .with(Asked.good().or(NULL, 3), cells, lanes);
        Check.promise(29);
        Asked.Call watch = (x, n) -> x.watch(n[0], n[1], n[2], n[3], n[4]);
        int[] order = {UNKNOWN, OUTSIDE, CAST, NULL, SIZE, INDEX};
        Asked.Place firsts = Asked.good(0, 2).or(INDEX, -1, 6, LEAST, GREATEST);
        Asked.Place lengths = Asked.good(0, 3).or(INDEX, 6, 61, GREATEST).or(SIZE, -1, LEAST);
        Asked.Place whats = Asked.within(0, 3, OUTSIDE);
        some("watch", watch).onlyTells().namesFaults().order(order)
            .with(Asked.good(0).or(UNKNOWN, -1, 4), Asked.good(0).or(CAST, 1, 2).or(OUTSIDE, -1, 3),
                firsts, lengths, whats);
        some("watch of nothing", watch).namesFaults().order(order)
            .with(Asked.good().or(NULL, 3), lanes, firsts, lengths, Asked.good(0).or(OUTSIDE, 4));
        some("watch to the end", watch).onlyTells().namesFaults().order(order)
            .with(Asked.good(0), Asked.good(0), Asked.good(4), Asked.good(0, 1).or(INDEX, 2), Asked.good(0));
        some("watch from the end", watch).onlyTells().namesFaults().order(order)
            .with(Asked.good(0), Asked.good(0), Asked.good(5), Asked.good(0).or(INDEX, 1), Asked.good(0));
    }

    private static void ofCopy() {
        Check.promise(28);
        Asked.Call copy = (x, n) -> x.copy(n[0], n[1], n[2], n[3], n[4]);
        int[] order = {UNKNOWN, NULL, CAST, INDEX};
        Asked.Place numbers = Asked.good(0, 1).or(INDEX, -1, 6, LEAST, GREATEST);
        // SHEET 1 is of another LANE than 0 and 2.
        some("copy", copy).namesFaults().order(order)
            .with(sheetsOrNothing(), numbers, Asked.good(0, 2).or(CAST, 1).or(NULL, 3).or(UNKNOWN, -1, 4),
                numbers, Asked.good(0, 2).or(INDEX, -1, 6, LEAST, GREATEST));
        some("copy of nothing", copy).namesFaults().order(order)
            .with(Asked.good().or(NULL, 3), Asked.good(0), Asked.good(0, 1, 2, 3), Asked.good(0).or(INDEX, -1),
                Asked.good(0));
        // Up to the last cell of SHEET 0 (5) and of SHEET 2 (3), and one beyond.
        some("copy to the end", copy).namesFaults().order(order)
            .with(Asked.good(0), Asked.good(2), Asked.good(2), Asked.good(0).or(INDEX, 1), Asked.good(3).or(INDEX, 4));
        some("copy from the end", copy).namesFaults().order(order)
            .with(Asked.good(2), Asked.good(0).or(INDEX, 1), Asked.good(0), Asked.good(2), Asked.good(3).or(INDEX, 4));
        some("copy of no cell", copy).namesFaults().order(order)
            .with(Asked.good(0), Asked.good(5).or(INDEX, 6), Asked.good(2), Asked.good(3).or(INDEX, 4), Asked.good(0));
    }

    private static void ofParts() {
        Check.promise(30);
        some("tell", (x, n) -> x.tell(n[0])).order(UNKNOWN).with(tickets());
        Check.promise(31);
        some("worth", (x, n) -> x.worth(n[0])).order(UNKNOWN).with(tickets());
        Check.promise(32);
        Asked.Call as = (x, n) -> x.as(n[0], n[1]);
        Asked.Place kinds = Asked.within(0, 2, OUTSIDE).and(1);
        Asked.Place no = Asked.good().or(UNKNOWN, -1, 6, 40, LEAST, GREATEST);
        some("as of none", as).namesFaults().order(UNKNOWN, OUTSIDE, CAST).with(no, kinds);
        some("as of a TICKET", as).onlyTells().namesFaults().order(UNKNOWN, OUTSIDE, CAST)
            .with(Asked.good(0, 1, 3, 5), Asked.good(0).or(CAST, 1, 2).or(OUTSIDE, -1, 3, LEAST, GREATEST));
        some("as of one PUT RIGHT", as).onlyTells().namesFaults().order(UNKNOWN, OUTSIDE, CAST)
            .with(Asked.good(2), Asked.good(0, 1).or(CAST, 2).or(OUTSIDE, -1, 3));
        some("as of one REMADE", as).onlyTells().namesFaults().order(UNKNOWN, OUTSIDE, CAST).with(Asked.good(4), kinds);
        Check.promise(35);
        Asked.Place whats = Asked.good(0, 1, 2, 3, 10, 11)
            .or(OUTSIDE, -1, 4, 9, 12, 15, 16, LEAST, LEAST + 10, GREATEST);
        some("told", (x, n) -> x.told(n[0])).onlyTells().order(OUTSIDE).with(whats);
        full("told", (x, n) -> x.told(n[0])).onlyTells().order(OUTSIDE)
            .with(Asked.within(10, 15, OUTSIDE).or(OUTSIDE, 4, 17));
    }
}
