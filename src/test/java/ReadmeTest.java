import java.io.IOException;
import java.lang.reflect.Method;
import java.lang.reflect.Modifier;
import java.net.URL;
import java.net.URLClassLoader;
import java.nio.file.Files;
import java.nio.file.Path;
import java.util.ArrayList;
import java.util.List;
import java.util.regex.Matcher;
import java.util.regex.Pattern;
import java.util.stream.Stream;
import javax.tools.ToolProvider;

/** README.md tells what is so: its example, its calls and its tests. It runs in the project's folder. */
public final class ReadmeTest {
    private static final Pattern EXAMPLE = Pattern.compile("(?s)```java\n(.*?)```");
    private static final Pattern ANSWERED = Pattern.compile("\\w+ (\\w+) = .*?; +// = (\\S+).*");
    private static final Pattern CALL = Pattern.compile("(?m)^\\| `(\\w+)\\(([^)]*)\\)` \\|");

    public static void main(String[] args) throws IOException, ReflectiveOperationException {
        String page = Files.readString(Path.of("README.md"));
        example(page);
        calls(page);
        tests(page);
        Check.end();
    }

    private static void example(String page) throws IOException, ReflectiveOperationException {
        Matcher found = EXAMPLE.matcher(page);
        if (!found.find()) {
            Check.fault("README.md has no example");
            return;
        }
        List<String> names = new ArrayList<>();
        List<String> due = new ArrayList<>();
        for (String line : found.group(1).split("\n")) {
            Matcher answered = ANSWERED.matcher(line);
            if (answered.matches()) {
                names.add(answered.group(1));
                due.add(answered.group(2));
            }
        }
        Check.due("the example tells answers", names.isEmpty(), false);
        Object[] got = answers(found.group(1), names);
        for (int k = 0; k < names.size(); k++) {
            String told = names.get(k) + " is " + got[k] + ", README.md tells " + due.get(k) + ":";
            Check.due(told, due.get(k).equals(String.valueOf(got[k])), true);
        }
    }

    /** What the named variables of the example hold behind it. */
    private static Object[] answers(String example, List<String> names)
            throws IOException, ReflectiveOperationException {
        Path folder = Files.createTempDirectory("readme");
        Path source = folder.resolve("Example.java");
        Files.writeString(source, "public class Example {\n    public static Object[] answers() {\n" + example
                + "return new Object[] {" + String.join(", ", names) + "};\n    }\n}\n");
        int failed = ToolProvider.getSystemJavaCompiler().run(null, null, null,
                "-d", folder.toString(), "-cp", System.getProperty("java.class.path"), source.toString());
        Check.due("the example's compiling", failed, 0);
        try (URLClassLoader loader = new URLClassLoader(new URL[] {folder.toUri().toURL()})) {
            return (Object[]) loader.loadClass("Example").getMethod("answers").invoke(null);
        } finally {
            Files.deleteIfExists(folder.resolve("Example.class"));
            Files.deleteIfExists(source);
            Files.deleteIfExists(folder);
        }
    }

    private static void calls(String page) {
        List<String> told = new ArrayList<>();
        Matcher call = CALL.matcher(page);
        while (call.find()) {
            int parameters = call.group(2).isEmpty() ? 0 : call.group(2).split(", ").length;
            told.add(call.group(1) + " " + parameters);
        }
        int open = 0;
        for (Method method : DewPond.class.getDeclaredMethods()) {
            if (Modifier.isPublic(method.getModifiers())) {
                open++;
                String due = method.getName() + " " + method.getParameterCount();
                Check.due("README.md tells of " + method, told.contains(due), true);
            }
        }
        Check.due("calls of which README.md tells", told.size(), open);
    }

    private static void tests(String page) throws IOException {
        try (Stream<Path> files = Files.list(Path.of("src/test/java"))) {
            for (Path file : files.toList()) {
                String name = file.getFileName().toString().replace(".java", "");
                if (name.endsWith("Test")) {
                    Check.due("README.md tells of " + name, page.contains("| `" + name + "` |"), true);
                }
            }
        }
    }
}
