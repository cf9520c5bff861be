import java.io.IOException;
import java.lang.reflect.Method;
import java.lang.reflect.Modifier;
import java.net.URL;
import java.net.URLClassLoader;
import java.nio.file.Files;
import java.nio.file.Path;
import java.util.ArrayList;
import java.util.List;
import java.util.regex.Matcher;
import java.util.regex.Pattern;
import java.util.stream.Collectors;
import java.util.stream.Stream;
import javax.tools.ToolProvider;

/**
 * README.md says what the class does: its example is compiled and run, and it names every call of
 * the face and every file of the tests. It is looked for in the folder where the test runs.
 */
public final class ReadmeTest {
    private static final Pattern EXAMPLE = Pattern.compile("```java\n(.*?)```", Pattern.DOTALL);
    private static final Pattern ANSWERS = Pattern.compile("(int (\\w+) = )?(.+);\\s*// => (\\w+).*");
    private static final Pattern THROWS = Pattern.compile("(.+);\\s*// throws (\\w+).*");
    private static int looks = 0;
    private static int wrong = 0;

    public static void main(String[] args) throws Exception {
        String readme = Files.readString(Path.of("README.md"));
        runExample(program(readme));
        for (String name : names()) {
            due("README.md names " + name, readme.contains("`" + name), true);
        }
        System.out.println(looks + " looks at README.md, " + wrong + " wrong");
        if (wrong != 0) {
            System.exit(1);
        }
    }

    /** Public, as the example's program calls it. */
    public static void due(String what, Object got, Object due) {
        looks++;
        if (!got.equals(due)) {
            wrong++;
            System.out.println(what + ": " + got + ", due is " + due);
        }
    }

    private static String program(String readme) {
        Matcher example = EXAMPLE.matcher(readme);
        if (!example.find()) {
            throw new AssertionError("README.md has no example");
        }
        return "public class Example { public static void main(String[] args) {\n"
            + example.group(1).lines().map(ReadmeTest::looked).collect(Collectors.joining("\n")) + "}}\n";
    }

    /** The line of the example, followed by a look at the answer that it tells. */
    private static String looked(String line) {
        Matcher answers = ANSWERS.matcher(line);
        Matcher thrown = THROWS.matcher(line);
        if (answers.matches()) {
            String made = answers.group(1) == null ? "" : answers.group(1) + answers.group(3) + ";";
            String asked = answers.group(1) == null ? answers.group(3) : answers.group(2);
            return made + look(answers.group(3), asked, answers.group(4));
        }
        if (thrown.matches()) {
            String due = "\"" + thrown.group(2) + "\"";
            return "try { " + thrown.group(1) + ";" + look(thrown.group(1), "\"no exception\"", due)
                + "} catch (RuntimeException e) {"
                + look(thrown.group(1), "e.getClass().getSimpleName()", due) + "}";
        }
        if (line.contains("=>") || line.contains("throws")) {
            throw new AssertionError("a line that can't be looked at: " + line);
        }
        return line;
    }

    private static String look(String what, String got, String due) {
        return "ReadmeTest.due(\"" + what + "\", " + got + ", " + due + ");";
    }

    private static void runExample(String program) throws Exception {
        Path folder = Files.createTempDirectory("example");
        Path source = Files.writeString(folder.resolve("Example.java"), program);
        Path compiled = folder.resolve("Example.class");
        try {
            int exit = ToolProvider.getSystemJavaCompiler().run(null, null, null,
                "-cp", System.getProperty("java.class.path"), "-d", folder.toString(), source.toString());
            due("the example compiles with exit code", exit, 0);
            try (URLClassLoader loader = new URLClassLoader(new URL[] {folder.toUri().toURL()})) {
                Method main = loader.loadClass("Example").getMethod("main", String[].class);
                main.invoke(null, (Object) new String[0]);
            }
        } finally {
            Files.deleteIfExists(compiled);
            Files.delete(source);
            Files.delete(folder);
        }
    }

    private static List<String> names() throws IOException {
        List<String> names = new ArrayList<>();
        for (Method m : BeatPathOffice.class.getDeclaredMethods()) {
            if (Modifier.isPublic(m.getModifiers())) {
                names.add(m.getName() + "(");
            }
        }
        try (Stream<Path> files = Files.list(Path.of("src/test/java"))) {
            files.forEach(file -> names.add(file.getFileName().toString().replace(".java", "`")));
        }
        return names;
    }
}
