import java.io.IOException;
import java.io.UncheckedIOException;
import java.lang.reflect.Method;
import java.lang.reflect.Modifier;
import java.net.URL;
import java.net.URLClassLoader;
import java.nio.file.Files;
import java.nio.file.Path;
import java.nio.file.Paths;
import java.util.Comparator;
import java.util.List;
import java.util.regex.Matcher;
import java.util.regex.Pattern;
import java.util.stream.Collectors;
import java.util.stream.Stream;
import javax.tools.ToolProvider;

/** README.md tells what holds: its example answers what it says, and it names each call and each test. */
public final class ReadmeTest {
    private static final Pattern BLOCK = Pattern.compile("```java\n(.*?)```", Pattern.DOTALL);
    private static final Pattern CALL = Pattern.compile("(book\\.\\w+\\(.*\\)); +// (-?\\d+)\\b.*");

    private static int wrong = 0;

    public static void main(String[] args) throws Exception {
        String readme = Files.readString(Paths.get("README.md"));
        checkCalls(readme);
        checkTests(readme);
        checkExample(readme);
        System.out.println(wrong == 0 ? "README.md tells what holds" : wrong + " faults in README.md");
        System.exit(wrong == 0 ? 0 : 1);
    }

    /** Called by the example's lines, too. */
    public static void due(String line, long got, long want) {
        if (got != want) {
            tell(line + " answered " + got + ", due is " + want);
        }
    }

    private static void tell(String fault) {
        wrong++;
        System.out.println(fault);
    }

    private static void checkCalls(String readme) {
        for (Method method : TrenchBook.class.getDeclaredMethods()) {
            String row = "\n| `" + method.getName() + "(";
            if (Modifier.isPublic(method.getModifiers()) && !readme.contains(row)) {
                tell("there is no row for " + method.getName());
            }
        }
    }

    private static void checkTests(String readme) throws IOException {
        try (Stream<Path> files = Files.list(Paths.get("src/test/java"))) {
            for (Path file : files.collect(Collectors.toList())) {
                String name = file.getFileName().toString().replace(".java", "");
                if (!readme.contains("`" + name + "`")) {
                    tell("the test " + name + " is not named");
                }
            }
        }
    }

    // ---- the example

    private static void checkExample(String readme) throws Exception {
        Matcher block = BLOCK.matcher(readme);
        if (!block.find()) {
            tell("there is no example");
            return;
        }
        Path folder = Files.createTempDirectory("readme");
        try {
            Path source = folder.resolve("Example.java");
            Files.writeString(source, programOf(block.group(1)));
            int failed = ToolProvider.getSystemJavaCompiler().run(null, null, null,
                "-classpath", System.getProperty("java.class.path"), "-d", folder.toString(), source.toString());
            if (failed != 0) {
                tell("the example does not compile");
                return;
            }
            try (URLClassLoader loader = new URLClassLoader(new URL[] {folder.toUri().toURL()})) {
                loader.loadClass("Example").getMethod("run").invoke(null);
            }
        } finally {
            remove(folder);
        }
    }

    /** Each line of the example whose comment begins with a number becomes a check of this answer. */
    private static String programOf(String example) {
        StringBuilder body = new StringBuilder();
        List<String> lines = example.lines().collect(Collectors.toList());
        for (String line : lines.subList(1, lines.size())) {
            Matcher call = CALL.matcher(line);
            if (call.matches()) {
                body.append("ReadmeTest.due(\"").append(call.group(1)).append("\", ").append(call.group(1))
                    .append(", ").append(call.group(2)).append(");\n");
            } else {
                tell("this line of the example tells no answer: " + line);
            }
        }
        return "public class Example { public static void run() {\n" + lines.get(0) + "\n" + body + "} }\n";
    }

    private static void remove(Path folder) throws IOException {
        try (Stream<Path> files = Files.walk(folder)) {
            files.sorted(Comparator.reverseOrder()).forEach(file -> {
                try {
                    Files.delete(file);
                } catch (IOException thrown) {
                    throw new UncheckedIOException(thrown);
                }
            });
        }
    }
}
