import java.io.IOException;
import java.lang.reflect.InvocationTargetException;
import java.lang.reflect.Method;
import java.lang.reflect.Modifier;
import java.net.URL;
import java.net.URLClassLoader;
import java.nio.file.Files;
import java.nio.file.Path;
import java.util.ArrayList;
import java.util.Arrays;
import java.util.Comparator;
import java.util.List;
import java.util.Set;
import java.util.TreeSet;
import java.util.function.BiConsumer;
import java.util.regex.Matcher;
import java.util.regex.Pattern;
import java.util.stream.Stream;
import javax.tools.ToolProvider;

/** README.md says of the class what is so: its examples are run, and its tables laid beside the face. */
final class ReadmeTest {
    private static final Check CHECK = new Check("ReadmeTest");
    private static final Pattern BLOCK = Pattern.compile("```java\n(.*?)```", Pattern.DOTALL);
    /** A statement behind which stands a number or an exception: what the call answers. */
    private static final Pattern TOLD =
            Pattern.compile("(int \\w+ = )?(.*);\\s*// (-?\\d+|I\\w+Exception)(:.*)?");
    private static final Pattern ROW = Pattern.compile("\\| `(\\w+)\\(([^)]*)\\)` \\|(.*)\\|(.*)\\|");
    private static final Pattern THROWN = Pattern.compile("`(I\\w+Exception)`");

    public static void main(String[] args) throws IOException, ReflectiveOperationException {
        String text = Files.readString(Path.of("README.md"));
        examples(text);
        tables(text);
        CHECK.finish();
    }

    private static void examples(String text) throws IOException, ReflectiveOperationException {
        Path home = Files.createTempDirectory("readme");
        try {
            int blocks = compile(text, home);
            CHECK.same("there are examples", blocks > 0 ? 1 : 0, 1);
            try (URLClassLoader loader = new URLClassLoader(new URL[] {home.toUri().toURL()})) {
                for (int n = 0; n < blocks; n++) {
                    runExample(loader.loadClass("Example" + n), "example " + n);
                }
            }
        } finally {
            remove(home);
        }
    }

    private static void runExample(Class<?> example, String name) throws ReflectiveOperationException {
        List<String> told = new ArrayList<>();
        BiConsumer<String, String> lines = (line, got) -> {
            told.add(line);
            Matcher m = TOLD.matcher(line);
            CHECK.same(name + ": " + line, got, m.matches() ? m.group(3) : "nothing told");
        };
        try {
            example.getMethod("run", BiConsumer.class).invoke(null, lines);
        } catch (InvocationTargetException e) {
            CHECK.same(name, String.valueOf(e.getCause()), "no exception but those told");
        }
        CHECK.same(name + " tells an answer", told.isEmpty() ? 0 : 1, 1);
    }

    private static int compile(String text, Path home) throws IOException {
        Matcher block = BLOCK.matcher(text);
        int count = 0;
        while (block.find()) {
            Path file = home.resolve("Example" + count + ".java");
            Files.writeString(file, example(count, block.group(1)));
            int code = ToolProvider.getSystemJavaCompiler().run(null, null, null, "-cp",
                    System.getProperty("java.class.path"), "-d", home.toString(), file.toString());
            CHECK.same("example " + count + " compiled", code, 0);
            count++;
        }
        return count;
    }

    private static String example(int number, String block) {
        StringBuilder all = new StringBuilder("public final class Example" + number + " {\n"
                + "public static void run(java.util.function.BiConsumer<String, String> told) {\n");
        for (String line : block.split("\n")) {
            all.append(statement(line)).append('\n');
        }
        return all.append("}\n}\n").toString();
    }

    private static String statement(String line) {
        Matcher m = TOLD.matcher(line);
        if (!m.matches()) {
            return line;
        }
        String told = "told.accept(\"" + line.replace("\\", "\\\\").replace("\"", "\\\"") + "\", ";
        if (m.group(3).endsWith("Exception")) {
            return "try { " + m.group(2) + "; " + told + "\"nothing\"); } catch (RuntimeException e) { "
                    + told + "e.getClass().getSimpleName()); }";
        }
        if (m.group(1) == null) {
            return told + "String.valueOf(" + m.group(2) + "));";
        }
        String name = m.group(1).substring(4, m.group(1).indexOf(" ="));
        return m.group(1) + m.group(2) + "; " + told + "String.valueOf(" + name + "));";
    }

    private static void tables(String text) {
        Set<String> due = new TreeSet<>();
        for (Method method : PartitionKernel.class.getDeclaredMethods()) {
            if (Modifier.isPublic(method.getModifiers())) {
                due.add(method.getName() + " " + method.getParameterCount() + " "
                        + sorted(Arrays.stream(method.getExceptionTypes()).map(Class::getSimpleName)));
            }
        }
        Set<String> rows = new TreeSet<>();
        Matcher row = ROW.matcher(text);
        while (row.find()) {
            int parameters = row.group(2).isEmpty() ? 0 : row.group(2).split(",").length;
            rows.add(row.group(1) + " " + parameters + " "
                    + sorted(THROWN.matcher(row.group(4)).results().map(r -> r.group(1))));
        }
        CHECK.same("the tables", String.join("; ", rows), String.join("; ", due));
        CHECK.same("NONE", text.contains("`NONE` is " + PartitionKernel.NONE + ".") ? 1 : 0, 1);
    }

    private static String sorted(Stream<String> names) {
        return String.join(" ", names.sorted().toList());
    }

    private static void remove(Path home) throws IOException {
        try (Stream<Path> files = Files.walk(home)) {
            for (Path file : files.sorted(Comparator.reverseOrder()).toList()) {
                Files.delete(file);
            }
        }
    }
}
