import java.io.IOException;
import java.lang.reflect.Method;
import java.nio.file.Files;
import java.nio.file.Path;
import java.util.Arrays;
import java.util.Set;
import java.util.TreeSet;
import java.util.regex.Matcher;
import java.util.regex.Pattern;

/** README.md: its rows of Java are called in their order, and answer what stands behind them. Runs in the project's root. */
public final class ReadmeTest {
    private static final Pattern TOLD = Pattern.compile("tell\\(x, \"([^\"]*)\"\\);");
    private static final Pattern CALLED = Pattern.compile("x\\.(\\w+)\\(([-\\d, ]*)\\); +// (-?\\d+|[A-Z]+)\\b.*");
    /** How a text is told is shown by a method; the test has its own. */
    private static final String SHOWN = "static void tell(";
    private static final String[] WORDS = {
        "new ControlSigns()", "### An object, a text", "### What is taken", "### Questions", "### Changes, and what is undone",
        "### Images", "### What a refused call answers", "## How its tests are run", ".ci/run", "512 calls"
    };

    private static ControlSigns x = null;
    private static int calls = 0;
    private static int answers = 0;
    private static int wrong = 0;
    private static final Set<String> USED = new TreeSet<>();

    public static void main(String[] args) throws Exception {
        String readme = Files.readString(Path.of("README.md"));
        for (String word : WORDS) {
            check(readme.contains(word), "README.md does not have '" + word + "'");
        }
        boolean isJava = false;
        boolean isShown = false;
        for (String row : readme.split("\n")) {
            if (row.startsWith("```")) {
                isJava = row.equals("```java");
                isShown = false;
            } else if (isJava) {
                isShown = isShown || row.startsWith(SHOWN);
                if (!isShown) {
                    run(row);
                }
            }
        }
        checkAllUsed();
        checkTestsNamed(readme);
        check(calls <= 512, "an object is used for " + calls + " calls");
        System.out.println(answers + " answers of README.md, " + wrong + " things not as due");
        if (wrong != 0) {
            System.exit(1);
        }
    }

    private static void check(boolean isRight, String what) {
        if (!isRight) {
            wrong++;
            System.out.println(what);
        }
    }

    private static void run(String row) throws ReflectiveOperationException {
        Matcher told = TOLD.matcher(row);
        Matcher called = CALLED.matcher(row);
        if (row.equals("ControlSigns x = new ControlSigns();")) {
            x = new ControlSigns();
        } else if (x == null) {
            check(false, "no object yet: " + row);
        } else if (told.matches()) {
            tell(told.group(1));
        } else if (called.matches()) {
            long want = number(called.group(3));
            long got = answer(called.group(1), called.group(2));
            answers++;
            check(got == want, row + " answered " + got);
        } else {
            check(false, "a row that the test can't read: " + row);
        }
    }

    private static void tell(String text) {
        for (int k = 0; k < text.length(); k++) {
            x.type(text.charAt(k));
            calls++;
        }
    }

    /** A number, or a constant of the class by its name. */
    private static long number(String word) throws ReflectiveOperationException {
        return Character.isLetter(word.charAt(0))
            ? ((Number) ControlSigns.class.getField(word).get(null)).longValue() : Long.parseLong(word);
    }

    private static long answer(String name, String numbers) throws ReflectiveOperationException {
        Object[] values = numbers.isBlank() ? new Object[0]
            : Arrays.stream(numbers.split(",")).map(s -> (Object) Integer.valueOf(s.trim())).toArray();
        Class<?>[] types = new Class<?>[values.length];
        Arrays.fill(types, int.class);
        Method method = ControlSigns.class.getMethod(name, types);
        USED.add(name);
        calls++;
        return ((Number) method.invoke(x, values)).longValue();
    }

    /** Each method of the face has a row. */
    private static void checkAllUsed() {
        for (Method m : ControlSigns.class.getDeclaredMethods()) {
            if (java.lang.reflect.Modifier.isPublic(m.getModifiers())) {
                check(USED.contains(m.getName()), "README.md has no row of " + m.getName());
            }
        }
    }

    /** Each test of the project is named. */
    private static void checkTestsNamed(String readme) throws IOException {
        try (var files = Files.list(Path.of("src/test/java"))) {
            files.forEach(file -> {
                String name = file.getFileName().toString().replace(".java", "");
                check(readme.contains("`" + name + "`"), "README.md does not name " + name);
            });
        }
    }
}
