import java.io.IOException;
import java.lang.reflect.Constructor;
import java.lang.reflect.Field;
import java.lang.reflect.Member;
import java.lang.reflect.Method;
import java.lang.reflect.Modifier;
import java.nio.file.Files;
import java.nio.file.Path;
import java.util.Arrays;
import java.util.Set;
import java.util.TreeSet;
import java.util.regex.Matcher;
import java.util.regex.Pattern;
import java.util.stream.Collectors;

/** The public face, and the rules of ../shared/LANGUAGE.md that can be seen from outside. Runs in the project's root. */
public final class FaceTest {
    private static final String[] FACE = {
        "int type(int)", "int clear()", "int house()", "int takes(int,int)", "long coef(int,int)", "long box(int,int)",
        "int coefs(int,int,int)", "int ends(int,int,int)", "int wishes(int,int)", "int undo()",
        "long control(int,int,int,int)", "int variation(int,int)", "long end(int,int,int)", "long value(int,int,int)",
        "int brackets()", "int bracket(int,int)", "int makes()", "int paper(int)", "long witness(int)", "int proves()",
        "long narrowed(int,int,int)", "int sure(int)", "int first()", "long wish(int)", "int sees(int,int)",
        "int forget()", "int unseen()", "int keep(int)", "int back(int)", "int count(int)"
    };
    private static final String[] CONSTANTS = {
        "int BAD", "int STATE", "int FULL", "int NONE", "int WITNESS", "int UNSURE", "long NO"
    };
    /** What the interface says ahead of the first of some calls, and these calls. */
    private static final String[][] HEADINGS = {
        {"what is told", "type", "clear", "house", "takes", "coef", "box"}, {"what is done", "coefs", "ends", "wishes", "undo"},
        {"control", "control", "variation", "end", "value"}, {"roots", "brackets", "bracket"},
        {"papers", "makes", "paper", "witness", "proves"}, {"bounds", "narrowed"}, {"wishes", "sure", "first", "wish"},
        {"which polynomial", "sees", "forget", "unseen"}, {"images", "keep", "back", "count"}
    };
    private static final Set<String> LIBRARY = Set.of("Arrays.fill", "Math.abs", "Math.min", "Math.max", "System.arraycopy");
    private static final Set<String> STATIC_TYPES = Set.of("int", "long", "boolean", "char", "java.lang.String", "[I", "[J", "[C", "[B");
    private static final int MOST_CLASSES = 12;
    private static final int MOST_FIELDS = 20;
    private static final int MOST_PARAMETERS = 7;
    private static final int MOST_ROWS = 60;
    private static final String[] FORBIDDEN = {
        "\\b(throw|throws|try|catch|finally|synchronized|assert|package|protected|volatile|native)\\b", "->", "::",
        "Exact\\b", "\\bRandom\\b", "\\bThread\\b", "\\bSystem\\.(?!arraycopy\\b)", "\\bObject\\b", "\\.(equals|hashCode|toString)\\("
    };

    private static int wrong = 0;

    public static void main(String[] args) throws IOException {
        face();
        members();
        insideClasses();
        String source = Files.readString(Path.of("src/main/java/ControlSigns.java"));
        headings(source);
        String code = source.replaceAll("(?s)/\\*.*?\\*/", " ").replaceAll("//[^\n]*", " ");
        words(code);
        library(code);
        madeOnce(code);
        methodRows(code);
        System.out.println(wrong == 0 ? "the face is as told" : wrong + " things are not as told");
        if (wrong != 0) {
            System.exit(1);
        }
    }

    private static void check(boolean isRight, String what) {
        if (!isRight) {
            wrong++;
            System.out.println("not as told: " + what);
        }
    }

    private static String signature(Method m) {
        return m.getReturnType().getName() + " " + m.getName() + "("
            + Arrays.stream(m.getParameterTypes()).map(Class::getName).collect(Collectors.joining(",")) + ")";
    }

    private static void face() {
        Class<?> c = ControlSigns.class;
        check(Modifier.isPublic(c.getModifiers()) && Modifier.isFinal(c.getModifiers()), "a public and final class");
        Set<String> found = new TreeSet<>();
        for (Method m : c.getDeclaredMethods()) {
            if (Modifier.isPublic(m.getModifiers())) {
                found.add(signature(m));
                check(!Modifier.isStatic(m.getModifiers()), m.getName() + " is not static");
            }
        }
        Set<String> want = new TreeSet<>(Arrays.asList(FACE));
        check(found.equals(want), "the methods: " + found);
        Constructor<?>[] made = c.getDeclaredConstructors();
        check(made.length == 1 && Modifier.isPublic(made[0].getModifiers()) && made[0].getParameterCount() == 0, "the constructor");
    }

    private static void members() {
        Set<String> constants = new TreeSet<>();
        for (Field f : ControlSigns.class.getDeclaredFields()) {
            if (Modifier.isPublic(f.getModifiers())) {
                constants.add(f.getType().getName() + " " + f.getName());
                check(Modifier.isStatic(f.getModifiers()), "static: " + f.getName());
            } else {
                checkPrivate(f);
            }
        }
        check(constants.equals(new TreeSet<>(Arrays.asList(CONSTANTS))), "the constants: " + constants);
        checkFields(ControlSigns.class);
        Set<String> names = faceNames();
        for (Method m : ControlSigns.class.getDeclaredMethods()) {
            if (!Modifier.isPublic(m.getModifiers())) {
                checkPrivate(m);
                check(!names.contains(m.getName()), "a private method with a public name: " + m.getName());
            }
        }
    }

    private static void checkPrivate(Member m) {
        check(Modifier.isPrivate(m.getModifiers()) || m.isSynthetic(), "private: " + m.getName());
    }

    private static Set<String> faceNames() {
        return Arrays.stream(FACE).map(s -> s.replaceAll(".* |\\(.*", "")).collect(Collectors.toSet());
    }

    /** Rules 5 and 11: static fields are constants, and a class has some twenty fields beside these. */
    private static void checkFields(Class<?> c) {
        int fields = 0;
        for (Field f : c.getDeclaredFields()) {
            if (Modifier.isStatic(f.getModifiers())) {
                check(Modifier.isFinal(f.getModifiers()), "final: " + f.getName());
                check(STATIC_TYPES.contains(f.getType().getName()), "a type of constants: " + f.getName());
            } else {
                fields++;
            }
        }
        check(fields <= MOST_FIELDS, "at most some twenty fields: " + c.getName());
    }

    private static void insideClasses() {
        Class<?>[] inside = ControlSigns.class.getDeclaredClasses();
        check(inside.length + 1 <= MOST_CLASSES, "at most some twelve classes");
        Set<String> names = faceNames();
        for (Class<?> c : inside) {
            check(Modifier.isStatic(c.getModifiers()), "static: " + c.getName());
            check(!Modifier.isPublic(c.getModifiers()), "not public: " + c.getName());
            check(c.getDeclaredClasses().length == 0, "no class inside of " + c.getName());
            checkFields(c);
            for (Method m : c.getDeclaredMethods()) {
                check(m.getParameterCount() <= MOST_PARAMETERS, "seven parameters: " + m.getName());
                check(!Modifier.isPrivate(m.getModifiers()) || !names.contains(m.getName()),
                    "a private method with a public name: " + m.getName());
            }
        }
    }

    /** 'Ahead of the calls .. the interface says: ----': each heading, its calls in their order, then the next one. */
    private static void headings(String source) {
        int at = 0;
        for (String[] heading : HEADINGS) {
            at = behind(source, at, "    // ---- " + heading[0] + "\n");
            for (int k = 1; k < heading.length; k++) {
                at = behind(source, at, " " + heading[k] + "(");
            }
        }
    }

    /** The place behind the next public method or heading, which must be the one that is named. */
    private static int behind(String source, int from, String words) {
        Matcher next = Pattern.compile("    public (int|long)( \\w+\\()|    // ---- [a-z ]+\n").matcher(source);
        if (!next.find(from)) {
            check(false, "it ends ahead of '" + words.trim() + "'");
            return from;
        }
        String found = next.group(2) == null ? next.group() : next.group(2);
        check(found.equals(words), "'" + words.trim() + "' comes next, not '" + found.trim() + "'");
        return next.end();
    }

    private static void words(String code) {
        for (String word : FORBIDDEN) {
            Matcher m = Pattern.compile(word).matcher(code);
            if (m.find()) {
                check(false, "a word that LANGUAGE.md rules out: " + m.group());
            }
        }
        Matcher imports = Pattern.compile("import ([\\w.*]+)").matcher(code);
        while (imports.find()) {
            check(imports.group(1).matches("java\\.util\\.(Arrays|ArrayList|List|Iterator)"), "import " + imports.group(1));
        }
    }

    /** Rule 4: what is called by the name of a class is of the library's part that may be used. */
    private static void library(String code) {
        Matcher calls = Pattern.compile("\\b([A-Z]\\w*[a-z]\\w*)\\.(\\w+)\\(").matcher(code);
        while (calls.find()) {
            check(LIBRARY.contains(calls.group(1) + "." + calls.group(2)), "a call that LANGUAGE.md rules out: " + calls.group());
        }
    }

    /** All calls live in one room: what an object needs is made with it, in its fields. */
    private static void madeOnce(String code) {
        for (String row : code.split("\n")) {
            check(!row.matches(".*\\bnew\\b.*") || row.matches(" +private final [\\w\\[\\]]+ \\w+ = .*"), "made in a method: " + row.trim());
        }
    }

    /** Rule 11: methods stay short. A method ends with the first brace that stands as far to the left as it. */
    private static void methodRows(String code) {
        String head = "( {4}| {8})(?! |if|for|while|switch|else)[\\w\\[\\] ]+\\([^;={]*\\) \\{\n";
        Matcher methods = Pattern.compile("(?m)^" + head + "(?s:.*?)^\\1\\}$").matcher(code);
        int found = 0;
        while (methods.find()) {
            found++;
            long rows = methods.group().lines().count();
            check(rows <= MOST_ROWS, "a method of " + rows + " rows: " + methods.group().lines().findFirst().orElse("").trim());
        }
        check(found > FACE.length, "all methods are found");
    }
}
