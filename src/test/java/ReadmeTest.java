import java.io.IOException;
import java.lang.reflect.Method;
import java.lang.reflect.Modifier;
import java.net.URL;
import java.net.URLClassLoader;
import java.nio.file.Files;
import java.nio.file.Path;
import java.util.ArrayList;
import java.util.Comparator;
import java.util.List;
import java.util.regex.Matcher;
import java.util.regex.Pattern;
import java.util.stream.Stream;
import javax.tools.ToolProvider;

/** What README.md shows of the class's use is true: its lines of Java are compiled and run as one program. */
public final class ReadmeTest {
    private static final Pattern TOLD = Pattern.compile("(.*;)\\s*// (answers|throws) (\\S+)");
    private static final Pattern NAMED = Pattern.compile("(?:int|long|boolean) (\\w+) = .*");

    private static final Checks CHECKS = new Checks();

    public static void main(String[] args) throws Exception {
        String readme = Files.readString(Path.of("README.md"));
        List<String> lines = linesOfJava(readme);
        linesAreTrue(lines);
        everyCallIsShown(String.join("\n", lines));
        everyTestIsNamed(readme);
        CHECKS.finish("ReadmeTest");
    }

    private static List<String> linesOfJava(String readme) {
        List<String> lines = new ArrayList<>();
        boolean inside = false;
        for (String line : readme.split("\n")) {
            if (line.startsWith("```")) {
                inside = line.equals("```java");
            } else if (inside) {
                lines.add(line);
            }
        }
        return lines;
    }

    private static void linesAreTrue(List<String> lines) throws Exception {
        StringBuilder body = new StringBuilder();
        List<String> told = new ArrayList<>();
        List<String> want = new ArrayList<>();
        for (String line : lines) {
            Matcher m = TOLD.matcher(line);
            if (m.matches()) {
                body.append(m.group(2).equals("throws") ? caught(m.group(1)) : answered(m.group(1)));
                told.add(m.group(1));
                want.add(m.group(3));
            } else {
                CHECKS.due("the test reads what is told in: " + line, line.matches(".*(answers|throws).*"), false);
                body.append(line).append('\n');
            }
        }
        List<String> got = seenBy(body.toString(), String.join("\n", lines));
        CHECKS.due("lines that tell an answer", got.size(), want.size());
        for (int i = 0; i < Math.min(got.size(), want.size()); i++) {
            CHECKS.dueText("README.md: " + told.get(i), got.get(i), want.get(i));
        }
    }

    private static String answered(String statement) {
        Matcher named = NAMED.matcher(statement);
        if (named.matches()) {
            return statement + " seen.add(String.valueOf(" + named.group(1) + "));\n";
        }
        return "seen.add(String.valueOf(" + statement.substring(0, statement.length() - 1) + "));\n";
    }

    private static String caught(String statement) {
        return "try { " + statement + " seen.add(\"nothing\"); }"
            + " catch (RuntimeException thrown) { seen.add(thrown.getClass().getSimpleName()); }\n";
    }

    /** Compiles the lines, as written too, and runs the body made of them; answers what it noted. */
    @SuppressWarnings("unchecked")
    private static List<String> seenBy(String body, String asWritten) throws Exception {
        Path folder = Files.createTempDirectory("readme");
        try {
            Path file = folder.resolve("ReadmeLines.java");
            Files.writeString(file, "public final class ReadmeLines {\n"
                + "public static java.util.List<String> seen() {\n"
                + "java.util.List<String> seen = new java.util.ArrayList<>();\n"
                + body + "return seen;\n}\n"
                + "static void asWritten() {\n" + asWritten + "\n}\n}\n");
            int failed = ToolProvider.getSystemJavaCompiler().run(null, null, null,
                "-cp", System.getProperty("java.class.path"), "-d", folder.toString(), file.toString());
            CHECKS.due("javac of README.md's lines", failed, 0);
            if (failed != 0) {
                return List.of();
            }
            try (URLClassLoader loader = new URLClassLoader(new URL[] {folder.toUri().toURL()})) {
                return (List<String>) loader.loadClass("ReadmeLines").getMethod("seen").invoke(null);
            }
        } finally {
            remove(folder);
        }
    }

    private static void remove(Path folder) throws IOException {
        try (Stream<Path> found = Files.walk(folder)) {
            for (Path path : found.sorted(Comparator.reverseOrder()).toList()) {
                Files.delete(path);
            }
        }
    }

    private static void everyCallIsShown(String lines) {
        for (Method m : MeasuredStages.class.getDeclaredMethods()) {
            if (Modifier.isPublic(m.getModifiers())) {
                CHECKS.due("README.md shows " + m.getName(), lines.contains("machine." + m.getName() + "("), true);
            }
        }
    }

    private static void everyTestIsNamed(String readme) throws IOException {
        try (Stream<Path> found = Files.list(Path.of("src/test/java"))) {
            for (Path path : found.toList()) {
                String name = path.getFileName().toString().replace(".java", "");
                if (name.endsWith("Test")) {
                    CHECKS.due("README.md names " + name, readme.contains("`" + name + "`"), true);
                }
            }
        }
    }
}
