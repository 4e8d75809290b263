import java.io.ByteArrayOutputStream;
import java.io.File;
import java.io.PrintStream;
import java.lang.reflect.Method;
import java.lang.reflect.Modifier;
import java.net.URL;
import java.net.URLClassLoader;
import java.nio.charset.StandardCharsets;
import java.nio.file.Files;
import java.nio.file.Path;
import java.util.Comparator;
import java.util.List;
import java.util.stream.Collectors;
import java.util.stream.Stream;
import javax.tools.ToolProvider;

/** What README.md says is right for the class and the tests as they stand. It runs where .ci/run does. */
public final class ReadmeTest extends Check {
    public static void main(String[] args) throws Exception {
        String readme = Files.readString(Path.of("README.md"));
        exampleAnswersAsPrinted(readme);
        everyCallIsNamedWithItsArguments(readme);
        everyTestIsNamed(readme);
        end("ReadmeTest");
    }

    static void exampleAnswersAsPrinted(String readme) throws Exception {
        Path work = Files.createTempDirectory("readme");
        try {
            Path example = work.resolve("Example.java");
            Files.writeString(example, block(readme, "java"));
            int failed = ToolProvider.getSystemJavaCompiler().run(null, null, null,
                    "-cp", System.getProperty("java.class.path"), "-d", work.toString(), example.toString());
            due("the example compiles", failed, 0);
            if (failed == 0) {
                due("the example prints", printedBy(work), block(readme, "text"));
            }
        } finally {
            deleteAll(work);
        }
    }

    /** What stands between the fences of the one block of a language. */
    static String block(String readme, String language) {
        String[] parts = readme.split("(?m)^```" + language + "\n", -1);
        due("blocks of " + language, parts.length - 1, 1);
        return parts.length < 2 ? "" : parts[1].substring(0, parts[1].indexOf("```"));
    }

    static String printedBy(Path work) throws Exception {
        PrintStream out = System.out;
        ByteArrayOutputStream printed = new ByteArrayOutputStream();
        try (URLClassLoader loader = new URLClassLoader(new URL[] {work.toUri().toURL()}, ReadmeTest.class.getClassLoader())) {
            System.setOut(new PrintStream(printed, true, StandardCharsets.UTF_8));
            loader.loadClass("Example").getMethod("main", String[].class).invoke(null, (Object) new String[0]);
        } finally {
            System.setOut(out);
        }
        return printed.toString(StandardCharsets.UTF_8).replace(System.lineSeparator(), "\n");
    }

    static void deleteAll(Path work) throws Exception {
        try (Stream<Path> all = Files.walk(work)) {
            all.sorted(Comparator.reverseOrder()).map(Path::toFile).forEach(File::delete);
        }
    }

    static void everyCallIsNamedWithItsArguments(String readme) {
        List<String> rows = readme.lines().filter(line -> line.startsWith("| `")).collect(Collectors.toList());
        int calls = 0;
        for (Method call : BorrowedLives.class.getDeclaredMethods()) {
            if (Modifier.isPublic(call.getModifiers())) {
                String arguments = "[a-z]+" + ", [a-z]+".repeat(Math.max(0, call.getParameterCount() - 1));
                String row = "\\| `" + call.getName() + "\\(" + (call.getParameterCount() > 0 ? arguments : "") + "\\)` \\|.*";
                due("a row of " + call.getName(), rows.stream().filter(line -> line.matches(row)).count(), 1);
                calls++;
            }
        }
        due("no rows of other calls", rows.size(), calls);
    }

    static void everyTestIsNamed(String readme) throws Exception {
        try (Stream<Path> files = Files.list(Path.of("src/test/java"))) {
            for (Path file : files.collect(Collectors.toList())) {
                String name = file.getFileName().toString().replace(".java", "");
                due("README.md names " + name, readme.contains("`" + name + "`"), true);
            }
        }
    }
}
