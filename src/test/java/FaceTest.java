import java.io.IOException;
import java.lang.reflect.Constructor;
import java.lang.reflect.Field;
import java.lang.reflect.Method;
import java.lang.reflect.Modifier;
import java.nio.file.Files;
import java.nio.file.Path;
import java.util.Arrays;
import java.util.List;
import java.util.Set;
import java.util.TreeSet;
import java.util.stream.Collectors;

/** The class shows the document's face and nothing else, and its text keeps to LANGUAGE.md where that can be read off. */
public final class FaceTest {
    private static final String A = " throws java.lang.IllegalArgumentException";
    private static final String I = " throws java.lang.IndexOutOfBoundsException";
    private static final String N = " throws java.util.NoSuchElementException";
    private static final String S = ",java.lang.IllegalStateException";
    private static final List<String> FACE = List.of(
        "void image(int,long)" + A,
        "void approve(int)" + A,
        "int boot(int)" + A + S,
        "int fault()",
        "int launched()",
        "int steps()",
        "long acc()",
        "long register(int)" + I,
        "void extend(int,long)" + I + S,
        "int events()",
        "int eventRegister(int)" + N,
        "long eventValue(int)" + N,
        "void tamper(int,long)" + N,
        "boolean replays()",
        "int seal(int,long)" + A + S,
        "long unseal(int)" + N + S,
        "void discard(int)" + N,
        "long quote(long,long,int)" + A);
    private static final List<String> BARRED = List.of(
        "->", "::", "package ", "synchronized", "assert ", "finally", "catch", "static {", "@Override",
        "Exact(", "System.", "Thread", "Random", "protected");
    private static final Set<String> CONSTANTS = Set.of("int", "long", "boolean", "char", "java.lang.String");
    private static final String EXCEPTIONS =
        "IllegalStateException|IllegalArgumentException|IndexOutOfBoundsException|NoSuchElementException";

    private static final Checks CHECKS = new Checks();

    public static void main(String[] args) throws IOException {
        Class<?> c = MeasuredStages.class;
        CHECKS.dueText("the class", Modifier.toString(c.getModifiers()), "public final");
        methodsAreTheFace(c);
        constructorIsTheFace(c);
        fieldsArePrivate(c);
        CHECKS.due("there are more than twelve classes", c.getDeclaredClasses().length + 1 > 12, false);
        staysSmall(c);
        for (Class<?> inner : c.getDeclaredClasses()) {
            innerIsKeptIn(inner);
            staysSmall(inner);
        }
        textKeepsToTheLanguage();
        CHECKS.finish("FaceTest");
    }

    private static void methodsAreTheFace(Class<?> c) {
        Set<String> got = new TreeSet<>();
        Set<String> names = new TreeSet<>();
        for (Method m : c.getDeclaredMethods()) {
            if (Modifier.isPublic(m.getModifiers())) {
                got.add((Modifier.isStatic(m.getModifiers()) ? "static " : "") + described(m));
                names.add(m.getName());
            }
        }
        CHECKS.dueText("the face", String.join("\n  ", got), String.join("\n  ", new TreeSet<>(FACE)));
        for (Method m : c.getDeclaredMethods()) {
            boolean open = Modifier.isPublic(m.getModifiers());
            CHECKS.due(m + " is public or private", open || Modifier.isPrivate(m.getModifiers()), true);
            CHECKS.due(m + " shares a public name", !open && names.contains(m.getName()), false);
        }
    }

    private static String described(Method m) {
        String thrown = names(m.getExceptionTypes());
        return m.getReturnType().getName() + " " + m.getName() + "(" + names(m.getParameterTypes()) + ")"
            + (thrown.isEmpty() ? "" : " throws " + thrown);
    }

    private static String names(Class<?>[] types) {
        return Arrays.stream(types).map(Class::getName).collect(Collectors.joining(","));
    }

    private static void constructorIsTheFace(Class<?> c) {
        Constructor<?>[] made = c.getDeclaredConstructors();
        CHECKS.due("constructors", made.length, 1);
        CHECKS.dueText("the constructor", made[0].toString(), "public MeasuredStages()");
    }

    private static void fieldsArePrivate(Class<?> c) {
        for (Field f : c.getDeclaredFields()) {
            CHECKS.due(f + " is private", Modifier.isPrivate(f.getModifiers()), true);
            staticIsConstant(f);
        }
    }

    private static void staticIsConstant(Field f) {
        if (Modifier.isStatic(f.getModifiers())) {
            CHECKS.due(f + " is final", Modifier.isFinal(f.getModifiers()), true);
            CHECKS.due(f + " is a constant", CONSTANTS.contains(f.getType().getName()), true);
        }
    }

    private static void staysSmall(Class<?> c) {
        long fields = Arrays.stream(c.getDeclaredFields()).filter(f -> !Modifier.isStatic(f.getModifiers())).count();
        CHECKS.due(c + " has more than twenty fields", fields > 20, false);
        for (Method m : c.getDeclaredMethods()) {
            CHECKS.due(m + " has more than seven parameters", m.getParameterCount() > 7, false);
        }
    }

    private static void innerIsKeptIn(Class<?> inner) {
        int modifiers = inner.getModifiers();
        CHECKS.due(inner + " is static", Modifier.isStatic(modifiers), true);
        CHECKS.due(inner + " is open", Modifier.isPublic(modifiers) || Modifier.isProtected(modifiers), false);
        for (Field f : inner.getDeclaredFields()) {
            staticIsConstant(f);
        }
    }

    private static void textKeepsToTheLanguage() throws IOException {
        String text = Files.readString(Path.of("src/main/java/MeasuredStages.java"));
        for (String barred : BARRED) {
            CHECKS.due("the text has " + barred, text.contains(barred), false);
        }
        text.lines().filter(line -> line.contains("throw ")).forEach(line -> CHECKS.due(
            "a written exception is thrown:" + line,
            line.strip().matches("throw new (" + EXCEPTIONS + ")\\(\"[^\"]*\"\\);"), true));
        String imports = text.lines().filter(line -> line.startsWith("import")).collect(Collectors.joining(" "));
        CHECKS.dueText("imports", imports, "import java.util.Arrays; import java.util.NoSuchElementException;");
    }
}
