import java.io.IOException;
import java.lang.reflect.Constructor;
import java.lang.reflect.Field;
import java.lang.reflect.Member;
import java.lang.reflect.Method;
import java.lang.reflect.Modifier;
import java.nio.file.Files;
import java.nio.file.Path;
import java.util.Arrays;
import java.util.Set;
import java.util.TreeSet;
import java.util.regex.Matcher;
import java.util.regex.Pattern;
import java.util.stream.Collectors;

/** The public face, and the rules of ../shared/LANGUAGE.md that can be seen from outside. Runs in the project's root. */
public final class FaceTest {
    private static final String[] FACE = {
        "int type(int)", "int clear()", "int house()", "int takes(int,int)", "long coef(int,int)", "long box(int,int)",
        "int coefs(int,int,int)", "int ends(int,int,int)", "int wishes(int,int)", "int undo()",
        "long control(int,int,int,int)", "int variation(int,int)", "long end(int,int,int)", "long value(int,int,int)",
        "int brackets()", "int bracket(int,int)", "int makes()", "int paper(int)", "long witness(int)", "int proves()",
        "long narrowed(int,int,int)", "int sure(int)", "int first()", "long wish(int)", "int sees(int,int)",
        "int forget()", "int unseen()", "int keep(int)", "int back(int)", "int count(int)"
    };
    private static final String[] CONSTANTS = {"BAD", "STATE", "FULL", "NONE", "WITNESS", "UNSURE", "NO"};
    private static final String[] FORBIDDEN = {
        "\\b(throw|throws|try|catch|finally|synchronized|assert|package|protected|volatile|native)\\b", "->", "::",
        "Exact\\b", "\\bRandom\\b", "\\bThread\\b", "\\bSystem\\.(?!arraycopy\\b)", "\\bObject\\b", "\\.(equals|hashCode|toString)\\("
    };

    private static int wrong = 0;

    public static void main(String[] args) throws IOException {
        face();
        members();
        insideClasses();
        words();
        System.out.println(wrong == 0 ? "the face is as told" : wrong + " things are not as told");
        if (wrong != 0) {
            System.exit(1);
        }
    }

    private static void check(boolean isRight, String what) {
        if (!isRight) {
            wrong++;
            System.out.println("not as told: " + what);
        }
    }

    private static String signature(Method m) {
        return m.getReturnType().getName() + " " + m.getName() + "("
            + Arrays.stream(m.getParameterTypes()).map(Class::getName).collect(Collectors.joining(",")) + ")";
    }

    private static void face() {
        Class<?> c = ControlSigns.class;
        check(Modifier.isPublic(c.getModifiers()) && Modifier.isFinal(c.getModifiers()), "a public and final class");
        Set<String> found = new TreeSet<>();
        for (Method m : c.getDeclaredMethods()) {
            if (Modifier.isPublic(m.getModifiers())) {
                found.add(signature(m));
                check(!Modifier.isStatic(m.getModifiers()), m.getName() + " is not static");
            }
        }
        Set<String> want = new TreeSet<>(Arrays.asList(FACE));
        check(found.equals(want), "the methods: " + found);
        Constructor<?>[] made = c.getDeclaredConstructors();
        check(made.length == 1 && Modifier.isPublic(made[0].getModifiers()) && made[0].getParameterCount() == 0, "the constructor");
    }

    private static void members() {
        Set<String> constants = new TreeSet<>();
        for (Field f : ControlSigns.class.getDeclaredFields()) {
            if (Modifier.isPublic(f.getModifiers())) {
                constants.add(f.getName());
            } else {
                checkPrivate(f);
            }
            check(!Modifier.isStatic(f.getModifiers()) || Modifier.isFinal(f.getModifiers()), "final: " + f.getName());
        }
        check(constants.equals(new TreeSet<>(Arrays.asList(CONSTANTS))), "the constants: " + constants);
        Set<String> names = Arrays.stream(FACE).map(s -> s.replaceAll(".* |\\(.*", "")).collect(Collectors.toSet());
        for (Method m : ControlSigns.class.getDeclaredMethods()) {
            if (!Modifier.isPublic(m.getModifiers())) {
                checkPrivate(m);
                check(!names.contains(m.getName()), "a private method with a public name: " + m.getName());
            }
        }
    }

    private static void checkPrivate(Member m) {
        check(Modifier.isPrivate(m.getModifiers()) || m.isSynthetic(), "private: " + m.getName());
    }

    private static void insideClasses() {
        Class<?>[] inside = ControlSigns.class.getDeclaredClasses();
        check(inside.length <= 12, "at most some twelve classes");
        for (Class<?> c : inside) {
            check(Modifier.isStatic(c.getModifiers()), "static: " + c.getName());
            check(!Modifier.isPublic(c.getModifiers()), "not public: " + c.getName());
            for (Field f : c.getDeclaredFields()) {
                check(!Modifier.isStatic(f.getModifiers()) || Modifier.isFinal(f.getModifiers()), "final: " + f.getName());
            }
            for (Method m : c.getDeclaredMethods()) {
                check(m.getParameterCount() <= 7, "seven parameters: " + m.getName());
            }
        }
    }

    private static void words() throws IOException {
        String source = Files.readString(Path.of("src/main/java/ControlSigns.java"));
        String code = source.replaceAll("(?s)/\\*.*?\\*/", " ").replaceAll("//[^\n]*", " ");
        for (String word : FORBIDDEN) {
            Matcher m = Pattern.compile(word).matcher(code);
            if (m.find()) {
                check(false, "a word that LANGUAGE.md rules out: " + m.group());
            }
        }
        Matcher imports = Pattern.compile("import ([\\w.*]+)").matcher(code);
        while (imports.find()) {
            check(imports.group(1).matches("java\\.util\\.(Arrays|ArrayList|List|Iterator)"), "import " + imports.group(1));
        }
    }
}
