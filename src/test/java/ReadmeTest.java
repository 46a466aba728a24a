import java.io.ByteArrayOutputStream;
import java.io.IOException;
import java.io.PrintStream;
import java.lang.reflect.Method;
import java.lang.reflect.Modifier;
import java.net.URL;
import java.net.URLClassLoader;
import java.nio.file.Files;
import java.nio.file.Path;
import java.util.ArrayList;
import java.util.List;
import java.util.Set;
import java.util.TreeSet;
import java.util.regex.Matcher;
import java.util.regex.Pattern;
import javax.tools.ToolProvider;

/** The example in README.md compiles and prints what its comments say, and the table there has the whole face. */
public final class ReadmeTest {
    private static final Pattern EXAMPLE = Pattern.compile("```java\n(.*?)```", Pattern.DOTALL);
    private static final Pattern PRINTED = Pattern.compile("System\\.out\\.println\\(.*\\); +// (\\S+) \\(");
    private static final Pattern CALL = Pattern.compile("\\| \\d+ \\| `(\\w+) (\\w+)\\(([^)]*)\\)` \\|");

    public static void main(String[] args) throws Exception {
        Check check = new Check();
        String readme = Files.readString(Path.of("README.md"));
        example(check, readme);
        face(check, readme);
        check.end();
    }

    private static void example(Check check, String readme) throws Exception {
        Matcher found = EXAMPLE.matcher(readme);
        check.holds("README.md has an example", found.find());
        String source = found.group(1);
        List<String> due = new ArrayList<>();
        Matcher printed = PRINTED.matcher(source);
        while (printed.find()) {
            due.add(printed.group(1));
        }
        check.due("lines that print have comments that say what", due.size(), source.split("println", -1).length - 1);
        List<String> got = run(source);
        check.holds("the example prints " + due + " (it prints " + got + ")", got.equals(due));
    }

    /** What the example prints, line by line. */
    private static List<String> run(String source) throws Exception {
        Path folder = Files.createTempDirectory("readme");
        Path file = folder.resolve("Example.java");
        PrintStream out = System.out;
        try (URLClassLoader loader = new URLClassLoader(new URL[] {folder.toUri().toURL()})) {
            Files.writeString(file, source);
            int fault = ToolProvider.getSystemJavaCompiler().run(null, null, null,
                    "-cp", System.getProperty("java.class.path"), "-d", folder.toString(), file.toString());
            if (fault != 0) {
                return List.of("it doesn't compile");
            }
            ByteArrayOutputStream bytes = new ByteArrayOutputStream();
            System.setOut(new PrintStream(bytes, true));
            loader.loadClass("Example").getMethod("main", String[].class).invoke(null, (Object) new String[0]);
            return bytes.toString().lines().toList();
        } finally {
            System.setOut(out);
            remove(folder);
        }
    }

    private static void remove(Path folder) throws IOException {
        try (var files = Files.list(folder)) {
            for (Path file : files.toList()) {
                Files.delete(file);
            }
        }
        Files.delete(folder);
    }

    private static void face(Check check, String readme) {
        Set<String> due = new TreeSet<>();
        for (Method method : ImageYard.class.getDeclaredMethods()) {
            if (Modifier.isPublic(method.getModifiers())) {
                List<String> types = new ArrayList<>();
                for (Class<?> type : method.getParameterTypes()) {
                    types.add(type.getName());
                }
                due.add(method.getReturnType() + " " + method.getName() + types);
            }
        }
        Set<String> got = new TreeSet<>();
        Matcher call = CALL.matcher(readme);
        while (call.find()) {
            List<String> types = new ArrayList<>();
            for (String parameter : call.group(3).split(", ")) {
                types.add(parameter.split(" ")[0]);
            }
            got.add(call.group(1) + " " + call.group(2) + types);
        }
        check.holds("README.md tells the face " + due + " (it tells " + got + ")", got.equals(due));
    }
}
