import java.lang.reflect.Constructor;
import java.lang.reflect.Field;
import java.lang.reflect.Method;
import java.lang.reflect.Modifier;
import java.nio.charset.StandardCharsets;
import java.nio.file.Files;
import java.nio.file.Path;
import java.util.Arrays;
import java.util.Set;
import java.util.TreeSet;
import java.util.regex.Matcher;
import java.util.regex.Pattern;
import java.util.stream.Collectors;

/** The public face of the document, and what of LANGUAGE.md can be seen without a compiler of one's own. */
final class FaceTest {
    private static final Path DOCUMENT = Path.of("..", "shared", "DOC.md");
    private static final Path PROGRAM = Path.of("src", "main", "java", "TrueLitres.java");

    /** What the program takes of the library; what else it comes to take is to be looked up in rule 4. */
    private static final Set<String> LIBRARY = Set.of("Math.min", "Math.max", "Math.abs", "Arrays.fill",
        "System.arraycopy", "Long.MIN_VALUE");

    private FaceTest() {
    }

    static void run() throws Exception {
        Check.promise(0);
        constants();
        methods();
        nothingElse();
        words();
    }

    private static void constants() {
        Check.due(TrueLitres.UNKNOWN, -1);
        Check.due(TrueLitres.OUTSIDE, -2);
        Check.due(TrueLitres.STATE, -3);
        Check.due(TrueLitres.FULL, -4);
        Check.due(TrueLitres.NONE, -9);
        Check.due(TrueLitres.LOST, Long.MIN_VALUE);
    }

    private static void methods() throws Exception {
        String program = Files.readString(PROGRAM, StandardCharsets.UTF_8);
        Set<String> asked = new TreeSet<>();
        Matcher line = Pattern.compile("public (int|long) (\\w+)\\(([^)]*)\\);").matcher(Files.readString(DOCUMENT));
        while (line.find()) {
            String types = line.group(3).replaceAll(" \\w+(?=,|$)", "").replace(", ", ",");
            asked.add(line.group(1) + " " + line.group(2) + "(" + types + ")");
            String whole = line.group().replace(";", " {");
            Check.dueTrue(program.contains(whole), "it stands as the document has it: " + whole);
        }
        Set<String> there = new TreeSet<>();
        for (Method method : TrueLitres.class.getDeclaredMethods()) {
            if (Modifier.isPublic(method.getModifiers())) {
                there.add(method.getReturnType() + " " + method.getName() + types(method));
            }
        }
        Check.due(asked.size(), 34);
        Check.dueTrue(there.equals(asked), "the methods are those of the document: " + there);
    }

    private static String types(Method method) {
        return Arrays.stream(method.getParameterTypes()).map(Class::getName)
            .collect(Collectors.joining(",", "(", ")"));
    }

    private static void nothingElse() {
        Check.dueTrue(Modifier.isFinal(TrueLitres.class.getModifiers()), "the class is final");
        Constructor<?>[] constructors = TrueLitres.class.getDeclaredConstructors();
        Check.due(constructors.length, 1);
        Check.due(constructors[0].getParameterCount(), 0);
        Set<String> publicNames = new TreeSet<>();
        Set<String> privateNames = new TreeSet<>();
        for (Method method : TrueLitres.class.getDeclaredMethods()) {
            (Modifier.isPublic(method.getModifiers()) ? publicNames : privateNames).add(method.getName());
            Check.dueTrue(isOpenOrOwn(method.getModifiers()), method + " is public or private");
        }
        Class<?>[] parts = TrueLitres.class.getNestMembers();
        // The nest has the class itself too, and would have whatever stands inside a method.
        Check.due(parts.length, TrueLitres.class.getDeclaredClasses().length + 1);
        Check.dueTrue(parts.length <= 12, "it has some twelve classes at most: " + parts.length);
        for (Class<?> part : parts) {
            dueSmall(part);
        }
        for (Class<?> part : TrueLitres.class.getDeclaredClasses()) {
            Check.dueTrue(Modifier.isStatic(part.getModifiers()), part + " is static");
            for (Method method : part.getDeclaredMethods()) {
                privateNames.add(method.getName());
            }
        }
        privateNames.retainAll(publicNames);
        Check.dueTrue(privateNames.isEmpty(), "no method of its own bears a public name: " + privateNames);
        int publicFields = 0;
        for (Field field : TrueLitres.class.getDeclaredFields()) {
            Check.dueTrue(isOpenOrOwn(field.getModifiers()), field + " is public or private");
            Check.dueTrue(!Modifier.isStatic(field.getModifiers()) || Modifier.isFinal(field.getModifiers()),
                field + " is no static state");
            publicFields += Modifier.isPublic(field.getModifiers()) ? 1 : 0;
        }
        Check.due(publicFields, 6);
    }

    private static void dueSmall(Class<?> part) {
        long fields = Arrays.stream(part.getDeclaredFields()).filter(f -> !Modifier.isStatic(f.getModifiers())).count();
        Check.dueTrue(fields <= 20, part + " has some twenty fields at most: " + fields);
        for (Method method : part.getDeclaredMethods()) {
            Check.dueTrue(method.getParameterCount() <= 7, method + " takes seven parameters at most");
        }
    }

    private static boolean isOpenOrOwn(int modifiers) {
        return Modifier.isPublic(modifiers) || Modifier.isPrivate(modifiers);
    }

    private static void words() throws Exception {
        String text = Files.readString(PROGRAM, StandardCharsets.UTF_8);
        Check.dueTrue(text.chars().allMatch(sign -> sign < 128), "the program is of plain signs");
        String code = text.replaceAll("(?s)/\\*.*?\\*/", " ").replaceAll("//[^\n]*", " ");
        String forbidden = "\\b(throw|throws|try|catch|finally|synchronized|assert|package|var|sealed)\\b|->|::|@"
            + "|\\w*Exact\\b|\\bstatic \\{|\\b(equals|hashCode|toString)\\(\\w* ?\\w*\\) \\{";
        Matcher found = Pattern.compile(forbidden).matcher(code);
        Check.dueTrue(!found.find(), "the program keeps to the words of LANGUAGE.md");
        Matcher imported = Pattern.compile("import ([^;]*);").matcher(code);
        while (imported.find()) {
            Check.dueTrue(imported.group(1).matches("java\\.util\\.(ArrayList|List|Arrays|Iterator)"),
                imported.group(1) + " is a library of LANGUAGE.md");
        }
        Matcher used = Pattern.compile("\\b[A-Z]\\w*[a-z]\\w*\\.\\w+").matcher(code);
        while (used.find()) {
            Check.dueTrue(LIBRARY.contains(used.group()), used.group() + " is of the library of LANGUAGE.md");
        }
    }
}
