import java.lang.reflect.Method;
import java.util.Arrays;
import java.util.Map;
import java.util.TreeMap;

/** Long runs of calls drawn by a fixed row of numbers, each answered by the program as by the Model. */
final class ModelTest {
    private static final int RUNS = 250, CALLS = 512;

    /** Each call with what its numbers are, as number() draws them; the order of their promises. */
    private static final String[] METERS = {
        "meter k", "factor m f d F", "at m f d", "points m d", "point m d i 2", "proof m f v", "run n t t", "proving 4",
        "accept d"
    };
    private static final String[] TICKETS = {
        "ticket m d p f", "right T p", "remake m a b", "ticketed T 8", "volume T", "sum m a b", "shut s"
    };
    private static final String[] LINES = {
        "line 4 m h", "lined 4 m", "end m u", "balance 4 a b 2", "beyond a b", "explains m a b"
    };
    private static final String[] SHEETS = {
        "sheet 4 L c", "lose 4", "put 4 c x", "cell 4 c L", "copy 4 c 4 c c", "watch 4 L c c 4"
    };
    private static final String[] PARTS = {"tell T", "worth T", "as T 3", "trace", "fault", "told o"};
    private static final String[][] GROUPS = {METERS, TICKETS, LINES, SHEETS, PARTS};
    private static final int[] ODD = {
        -2, -1, 0, 1, 2, 3, 4, 6, 8, 12, 40, 60, 61, 399, 400, 401, 999, 1000, 5000, 5001, 10000, 10001, 94999, 95000, 100000, 100001,
        105000, 105001, 1000000, 1000001, 10000000, 10000001, Integer.MIN_VALUE, Integer.MAX_VALUE
    };

    private static final Map<String, Method> PROGRAM = methods(TrueLitres.class), MODEL = methods(Model.class);
    private static final Map<String, Integer> ANSWERED = new TreeMap<>(), REFUSED = new TreeMap<>();

    private static TrueLitres program;
    private static Model model;
    private static int calls;
    private static boolean isAlike;

    private ModelTest() {
    }

    static void run() throws Exception {
        for (int round = 0; round < RUNS; round++) {
            program = new TrueLitres();
            model = new Model();
            calls = 0;
            isAlike = true;
            oneRun(round);
        }
        for (int g = 0; g < GROUPS.length; g++) {
            for (String call : GROUPS[g]) {
                dueOften(call.split(" ")[0]);
            }
        }
    }

    private static Map<String, Method> methods(Class<?> of) {
        Map<String, Method> all = new TreeMap<>();
        for (Method method : of.getDeclaredMethods()) {
            boolean isOfNumbers = Arrays.stream(method.getParameterTypes()).allMatch(type -> type == int.class);
            if (isOfNumbers && !java.lang.reflect.Modifier.isPrivate(method.getModifiers())) {
                all.put(method.getName(), method);
            }
        }
        return all;
    }

    /** That the runs come to all there is: each call is answered often, and refused often if it can be. */
    private static void dueOften(String name) {
        Check.promise(0);
        Check.dueTrue(ANSWERED.getOrDefault(name, 0) >= 30, name + " is answered: " + ANSWERED.get(name));
        boolean isNeverRefused = name.equals("trace") || name.equals("fault");
        Check.dueTrue(isNeverRefused || REFUSED.getOrDefault(name, 0) >= 30, name + " is refused: " + REFUSED.get(name));
    }

    private static void oneRun(int round) throws Exception {
        int meters = 1 + Draw.below(6);
        for (int m = 0; m < meters; m++) {
            ask(round, "meter", round % 2 == 0 ? 1000 : number('k'));
        }
        while (calls < CALLS && isAlike) {
            int which = Draw.below(40);
            if (which == 0) {
                prove(round);
            } else if (which == 1) {
                weigh(round, meters);
            } else if (which == 2) {
                watch(round);
            } else {
                askAny(round);
            }
        }
    }

    /** Most calls of a run are of two groups, so that it goes deep there. */
    private static void askAny(int round) throws Exception {
        int group = Draw.below(4) == 0 ? Draw.below(5) : (round + Draw.below(2)) % 5;
        String[] call = GROUPS[group][Draw.below(GROUPS[group].length)].split(" ");
        int[] numbers = new int[call.length - 1];
        for (int i = 0; i < numbers.length; i++) {
            numbers[i] = Draw.below(30) == 0 ? ODD[Draw.below(ODD.length)] : number(call[i + 1].charAt(0));
        }
        ask(round, call[0], numbers);
    }

    /** A PROOF that is near to be GOOD, by a METER that is near to be true. */
    private static void prove(int round) throws Exception {
        int vessel = 1000 + Draw.below(5) * Draw.below(99000);
        ask(round, "proof", number('m'), number('f'), vessel);
        int time = vessel + vessel / 100 * (Draw.below(13) - 6);
        for (int i = 5 + Draw.below(3); i > 0; i--) {
            ask(round, "run", 1, 1000, time + Draw.below(1 + time / 1900));
        }
        ask(round, "accept", number('d'));
    }

    /** METERS of which one has not told all, and lines that may be BEYOND for it. */
    private static void weigh(int round, int meters) throws Exception {
        for (int m = 0; m < meters; m++) {
            ask(round, "ticket", m, 200, 1000 + Draw.below(20), 100);
            ask(round, "end", m, Draw.below(3000));
        }
        for (int m = 0; m < meters; m++) {
            ask(round, "line", Draw.below(4), m, Draw.below(3) - 1);
            ask(round, "explains", m, 200, 200);
            ask(round, "explains", m, 0, 400);
            ask(round, "beyond", 0, 400);
        }
    }

    /** A SHEET of pulses, watched whole and in part, and copied where it may be. */
    private static void watch(int round) throws Exception {
        int k = Draw.below(4), lane = Draw.below(3), length = Draw.below(13);
        ask(round, "sheet", k, lane, length);
        for (int i = 0; i < length; i++) {
            ask(round, "put", k, i, number('x'));
        }
        for (int what = 0; what < 4; what++) {
            ask(round, "watch", k, lane, 0, length, what);
            ask(round, "watch", k, lane, number('c'), number('c'), what);
            ask(round, "copy", k, number('c'), Draw.below(2) == 0 ? k : what, number('c'), Draw.below(5));
            ask(round, "cell", k, number('c'), lane);
        }
    }

    private static int number(char of) {
        return switch (of) {
            case 'm' -> Draw.below(4) == 0 ? Draw.below(7) : Draw.below(2);
            case 'k' -> new int[] {1, 3, 777, 1000, 99999, 100000, 1 + Draw.below(100000)}[Draw.below(7)];
            case 'f' -> Draw.below(2) == 0 ? 100 * (1 + Draw.below(4)) : 1 + Draw.below(1000) * Draw.below(11);
            case 'd' -> Draw.below(2) == 0 ? Draw.below(12) : Draw.below(401);
            case 'F' -> 95000 + Draw.below(10001);
            case 'i' -> Draw.below(4);
            case 'v' -> 1000 + Draw.below(999001);
            case 'n' -> 1 + Draw.below(100000);
            case 't' -> 1 + Draw.below(1000000);
            case 'p' -> Draw.below(2) == 0 ? Draw.below(3000) : Draw.below(10000001);
            case 'T' -> Draw.below(40);
            case 'a' -> Draw.below(3) == 0 ? Draw.below(401) : Draw.below(12);
            case 'b' -> Draw.below(3) == 0 ? Draw.below(401) : 400 - Draw.below(12);
            case 's' -> Draw.below(30) == 0 ? Draw.below(401) : Draw.below(12);
            case 'h' -> Draw.below(3) - 1;
            case 'u' -> Draw.below(5001);
            case 'L' -> Draw.below(3);
            case 'c' -> Draw.below(5) == 0 ? Draw.below(62) : Draw.below(12);
            case 'x' -> new int[] {0, 1, 1, 1, 2, 2, 3, 257, 65538, Draw.below(9999999) - 5000000}[Draw.below(10)];
            case 'o' -> Draw.below(17);
            // A what, or one of a few: the number of them is told.
            default -> Draw.below(of - '0');
        };
    }

    private static void ask(int round, String name, int... numbers) throws Exception {
        if (calls >= CALLS || !isAlike) {
            return;
        }
        calls++;
        Object[] given = Arrays.stream(numbers).boxed().toArray();
        long got = ((Number) PROGRAM.get(name).invoke(program, given)).longValue();
        long want = ((Number) MODEL.get(name).invoke(model, given)).longValue();
        // What comes behind the first that is unlike tells nothing more.
        isAlike = got == want;
        Check.promise(promiseOf(name));
        Check.due(got, want, "run " + round + ", call " + calls + ": " + name + Arrays.toString(numbers));
        boolean isOfFaults = want < -10 && want > -15;
        boolean isRefused = want < 0 && want >= -4 || want == TrueLitres.LOST || isOfFaults;
        (isRefused ? REFUSED : ANSWERED).merge(name, 1, Integer::sum);
    }

    private static int promiseOf(String name) {
        int promise = 1;
        for (String[] group : GROUPS) {
            for (String call : group) {
                promise++;
                if (call.split(" ")[0].equals(name)) {
                    return promise;
                }
            }
        }
        return 0;
    }
}
