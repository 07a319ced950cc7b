import java.io.IOException;
import java.lang.reflect.InvocationTargetException;
import java.lang.reflect.Method;
import java.lang.reflect.Modifier;
import java.net.URL;
import java.net.URLClassLoader;
import java.nio.file.Files;
import java.nio.file.Path;
import java.util.ArrayList;
import java.util.List;
import java.util.regex.Matcher;
import java.util.regex.Pattern;
import java.util.spi.ToolProvider;
import java.util.stream.Collectors;
import java.util.stream.Stream;

/**
 * The examples that README.md shows, as it shows them: its Java blocks, one behind the other, are compiled and run, and
 * each call must answer what stands behind it. Run in the project's folder.
 */
final class ReadmeTest {
    private static final Pattern MADE = Pattern.compile("BodySolids \\w+ = new BodySolids\\(-?\\d+\\); +// .+");
    private static final Pattern CALL = Pattern.compile("(?:int (\\w+) = )?(\\w+\\.(\\w+)\\(.*\\)); +// (throws \\w+|-?\\d+|true|false)(?:: .+)?");
    private static final String HEAD = """
            import java.util.ArrayList;
            import java.util.List;

            public final class ReadmeShown {
                private static final List<String[]> ROWS = new ArrayList<>();

                private static void row(String call, Object answer, String due) {
                    ROWS.add(new String[] {call, String.valueOf(answer), due});
                }

                private static String thrown(Runnable call) {
                    try {
                        call.run();
                        return "nothing thrown";
                    } catch (RuntimeException e) {
                        return "throws " + e.getClass().getSimpleName();
                    }
                }

                public static List<String[]> rows() {
            """;

    public static void main(String[] args) throws IOException, ReflectiveOperationException {
        String readme = Files.readString(Path.of("README.md"));
        List<String> shown = shown(readme);
        for (String[] row : rows(source(shown))) {
            Due.yes("README.md shows " + row[0] + " with " + row[2] + "; it answers " + row[1], row[1].equals(row[2]));
        }
        everyMethodIsShown(shown);
        everyTestIsNamed(readme);
        Due.yes("README.md says how the tests are run", readme.contains("`.ci/run`"));
        Due.end();
    }

    /** The lines of all Java blocks. */
    private static List<String> shown(String readme) {
        List<String> found = new ArrayList<>();
        Matcher block = Pattern.compile("(?s)```java\\n(.*?)```").matcher(readme);
        while (block.find()) {
            block.group(1).lines().filter(line -> !line.isBlank()).forEach(found::add);
        }
        Due.yes("README.md shows some calls", found.size() > 20);
        return found;
    }

    private static String source(List<String> shown) {
        StringBuilder text = new StringBuilder(HEAD);
        for (String line : shown) {
            Matcher call = CALL.matcher(line);
            if (call.matches()) {
                text.append(row(call));
            } else {
                Due.yes("a line that is no call with its answer: " + line, MADE.matcher(line).matches());
                text.append(line).append('\n');
            }
        }
        return text.append("return ROWS;\n}\n}\n").toString();
    }

    private static String row(Matcher call) {
        String asked = call.group(2);
        String due = call.group(4);
        String told = "row(\"" + asked + "\", ";
        if (due.startsWith("throws")) {
            return told + "thrown(() -> " + asked + "), \"" + due + "\");\n";
        }
        if (call.group(1) != null) {
            return "int " + call.group(1) + " = " + asked + ";\n" + told + call.group(1) + ", \"" + due + "\");\n";
        }
        return told + asked + ", \"" + due + "\");\n";
    }

    private static List<String[]> rows(String source) throws IOException, ReflectiveOperationException {
        Path folder = Files.createTempDirectory("readme");
        try {
            Path file = Files.writeString(folder.resolve("ReadmeShown.java"), source);
            ToolProvider javac = ToolProvider.findFirst("javac").orElseThrow();
            int failed = javac.run(System.out, System.out, "-d", folder.toString(), "-cp", System.getProperty("java.class.path"),
                    file.toString());
            Due.is("compiling what README.md shows", failed, 0);
            return failed == 0 ? answers(folder) : List.of();
        } finally {
            try (Stream<Path> left = Files.list(folder)) {
                for (Path each : left.collect(Collectors.toList())) {
                    Files.delete(each);
                }
            }
            Files.delete(folder);
        }
    }

    @SuppressWarnings("unchecked")
    private static List<String[]> answers(Path folder) throws IOException, ReflectiveOperationException {
        try (URLClassLoader loader = new URLClassLoader(new URL[] {folder.toUri().toURL()})) {
            return (List<String[]>) loader.loadClass("ReadmeShown").getMethod("rows").invoke(null);
        } catch (InvocationTargetException e) {
            Due.yes("what README.md shows threw " + e.getCause(), false);
            return List.of();
        }
    }

    private static void everyMethodIsShown(List<String> shown) {
        for (Method method : BodySolids.class.getDeclaredMethods()) {
            boolean hidden = Modifier.isPrivate(method.getModifiers());
            Due.yes("README.md shows " + method.getName(),
                    hidden || shown.stream().anyMatch(line -> line.contains("." + method.getName() + "(")));
        }
    }

    private static void everyTestIsNamed(String readme) throws IOException {
        try (Stream<Path> all = Files.list(Path.of("src/test/java"))) {
            for (Path each : all.collect(Collectors.toList())) {
                String name = each.getFileName().toString().replace(".java", "");
                Due.yes("README.md says what " + name + " is for", readme.contains("`" + name + "`"));
            }
        }
    }
}
