import java.io.ByteArrayOutputStream;
import java.io.IOException;
import java.io.PrintStream;
import java.lang.reflect.Method;
import java.lang.reflect.Modifier;
import java.net.URL;
import java.net.URLClassLoader;
import java.nio.file.Files;
import java.nio.file.Path;
import java.util.Comparator;
import java.util.List;
import java.util.Set;
import java.util.TreeSet;
import java.util.regex.Matcher;
import java.util.regex.Pattern;
import java.util.stream.Collectors;
import java.util.stream.Stream;
import javax.tools.ToolProvider;

/** README.md tells what holds: its example, the calls, the tests and what runs them. */
public final class ReadmeTest {
    public static void main(String[] args) throws Exception {
        String readme = Files.readString(Path.of("README.md"));
        exampleAnswersWhatStandsThere(readme);
        everyCallIsNamed(readme);
        testsAreThoseThatAreThere(readme);
        whatRunsTheTestsIsThere(readme);
        Due.end();
    }

    private static String block(String readme, String language) {
        Matcher m = Pattern.compile("```" + language + "\n(.*?)```", Pattern.DOTALL).matcher(readme);
        return m.find() ? m.group(1) : "";
    }

    private static void exampleAnswersWhatStandsThere(String readme) throws Exception {
        Path folder = Files.createTempDirectory("readme");
        try {
            String printed = compiled(block(readme, "java"), folder) ? printedBy(folder) : "";
            Due.isTrue("the example prints\n" + printed, !printed.isEmpty() && printed.equals(block(readme, "text")));
        } finally {
            remove(folder);
        }
    }

    private static boolean compiled(String example, Path folder) throws IOException {
        Path source = folder.resolve("Example.java");
        Files.writeString(source, "public final class Example { public static void main(String[] args) {\n" + example + "} }");
        int code = ToolProvider.getSystemJavaCompiler().run(null, null, null,
            "-cp", System.getProperty("java.class.path"), "-d", folder.toString(), source.toString());
        Due.is("javac of the example", code, 0);
        return code == 0;
    }

    private static String printedBy(Path folder) throws Exception {
        ByteArrayOutputStream bytes = new ByteArrayOutputStream();
        PrintStream usual = System.out;
        System.setOut(new PrintStream(bytes, true));
        try (URLClassLoader loader = new URLClassLoader(new URL[] {folder.toUri().toURL()})) {
            loader.loadClass("Example").getMethod("main", String[].class).invoke(null, (Object) new String[0]);
        } finally {
            System.setOut(usual);
        }
        return bytes.toString().replace(System.lineSeparator(), "\n");
    }

    private static void remove(Path folder) throws IOException {
        try (Stream<Path> inside = Files.walk(folder)) {
            List<Path> deepestFirst = inside.sorted(Comparator.reverseOrder()).collect(Collectors.toList());
            for (Path path : deepestFirst) {
                Files.delete(path);
            }
        }
    }

    private static void everyCallIsNamed(String readme) {
        for (Method m : Reconcile.class.getDeclaredMethods()) {
            if (Modifier.isPublic(m.getModifiers())) {
                Due.isTrue("a row of " + m.getName(), readme.contains("\n| `" + m.getName() + "("));
            }
        }
    }

    private static void testsAreThoseThatAreThere(String readme) throws IOException {
        Set<String> told = new TreeSet<>();
        Matcher m = Pattern.compile("`(\\w+Test)`").matcher(readme);
        while (m.find()) {
            told.add(m.group(1));
        }
        Set<String> there = new TreeSet<>();
        try (Stream<Path> files = Files.list(Path.of("src/test/java"))) {
            files.map(file -> file.getFileName().toString()).filter(name -> name.endsWith("Test.java"))
                .forEach(name -> there.add(name.substring(0, name.length() - ".java".length())));
        }
        Due.isTrue("told are " + told + ", there are " + there, told.equals(there));
    }

    private static void whatRunsTheTestsIsThere(String readme) {
        String command = block(readme, "sh").trim();
        Due.isTrue("the command is " + command, command.equals(".ci/run"));
        Due.isTrue(command + " can be run", Files.isExecutable(Path.of(command)));
    }
}
