import java.lang.reflect.Method;
import java.nio.file.Files;
import java.nio.file.Path;
import java.util.HashMap;
import java.util.Map;
import java.util.regex.Matcher;
import java.util.regex.Pattern;

/** README.md shows the calls of one object, and behind them what they answer: each is called, in that order. */
final class ReadmeTest {
    private static final Pattern CALL =
        Pattern.compile("(?:int (\\w+) = )?litres\\.(\\w+)\\(([^)]*)\\); *(?:// (-?\\d+|NONE)?.*)?");
    private static final Pattern TIMES = Pattern.compile("for \\(int i = 0; i < (\\d+); i\\+\\+\\) \\{");

    private ReadmeTest() {
    }

    static void run() throws Exception {
        Check.promise(0);
        TrueLitres litres = new TrueLitres();
        Map<String, Integer> names = new HashMap<>();
        int times = 1, answers = 0;
        for (String line : Files.readAllLines(Path.of("README.md"))) {
            Matcher loop = TIMES.matcher(line.trim()), call = CALL.matcher(line.trim());
            if (loop.matches()) {
                times = Integer.parseInt(loop.group(1));
            } else if (call.matches()) {
                for (int i = 0; i < times; i++) {
                    long got = answer(litres, call.group(2), call.group(3), names);
                    answers += dueAsTold(line, got, call.group(4));
                    names.put(call.group(1), (int) got);
                }
                times = 1;
            }
        }
        Check.dueTrue(answers > 25, "README.md tells of answers: " + answers);
    }

    private static int dueAsTold(String line, long got, String told) {
        if (told == null) {
            return 0;
        }
        Check.due(got, told.equals("NONE") ? TrueLitres.NONE : Long.parseLong(told), line.trim());
        return 1;
    }

    private static long answer(TrueLitres litres, String call, String given, Map<String, Integer> names)
            throws Exception {
        String[] parts = given.isEmpty() ? new String[0] : given.split(", ");
        Object[] numbers = new Object[parts.length];
        for (int i = 0; i < parts.length; i++) {
            numbers[i] = names.containsKey(parts[i]) ? names.get(parts[i]) : Integer.valueOf(parts[i]);
        }
        for (Method method : TrueLitres.class.getDeclaredMethods()) {
            if (method.getName().equals(call)) {
                return ((Number) method.invoke(litres, numbers)).longValue();
            }
        }
        throw new IllegalArgumentException("README.md has a call that is none: " + call);
    }
}
