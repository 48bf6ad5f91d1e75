import java.io.ByteArrayOutputStream;
import java.io.File;
import java.io.IOException;
import java.io.PrintStream;
import java.lang.reflect.Method;
import java.lang.reflect.Modifier;
import java.net.URL;
import java.net.URLClassLoader;
import java.nio.charset.StandardCharsets;
import java.nio.file.Files;
import java.nio.file.Path;
import java.util.Set;
import java.util.TreeSet;
import java.util.regex.Matcher;
import java.util.regex.Pattern;
import javax.tools.JavaCompiler;
import javax.tools.ToolProvider;

/** README.md: its program compiles and prints what it says, and it tells of every test and call. */
public final class ReadmeTest {
    private static final Path README = Path.of("README.md");
    private static final Path TESTS = Path.of("src", "test", "java");

    public static void main(String[] args) throws Exception {
        String readme = Files.readString(README, StandardCharsets.UTF_8).replace("\r\n", "\n");
        theProgramPrints(readme);
        theTestsAreAllThereAre(readme);
        everyCallIsTold(readme);
        Expect.end();
    }

    private static void theProgramPrints(String readme) throws Exception {
        Expect.sentence("how to use the class");
        Path dir = Files.createTempDirectory("readme");
        try {
            Path source = dir.resolve("Example.java");
            Files.writeString(source, block(readme, "java"), StandardCharsets.UTF_8);
            Expect.same("the program compiles", compiled(source, dir), 0);
            String printed = printedBy(dir);
            Expect.same("the program prints\n" + printed, printed.equals(block(readme, "text")) ? 1 : 0, 1);
        } finally {
            removeAll(dir);
        }
    }

    /** What stands in the one block of this kind. */
    private static String block(String readme, String kind) {
        Matcher blocks = Pattern.compile("^```" + kind + "\n(.*?)^```$", Pattern.DOTALL | Pattern.MULTILINE).matcher(readme);
        String found = blocks.find() ? blocks.group(1) : "";
        Expect.same("one block of " + kind, found.isEmpty() || blocks.find() ? 0 : 1, 1);
        return found;
    }

    private static int compiled(Path source, Path dir) {
        JavaCompiler compiler = ToolProvider.getSystemJavaCompiler();
        return compiler.run(null, null, null, "-Xlint:all", "-Werror", "--release", "17",
                "-cp", System.getProperty("java.class.path"), "-d", dir.toString(), source.toString());
    }

    private static String printedBy(Path dir) throws Exception {
        ByteArrayOutputStream bytes = new ByteArrayOutputStream();
        PrintStream before = System.out;
        try (URLClassLoader loader = new URLClassLoader(new URL[] {dir.toUri().toURL()});
                PrintStream caught = new PrintStream(bytes, true, StandardCharsets.UTF_8)) {
            System.setOut(caught);
            loader.loadClass("Example").getMethod("main", String[].class).invoke(null, (Object) new String[0]);
        } finally {
            System.setOut(before);
        }
        return bytes.toString(StandardCharsets.UTF_8).replace(System.lineSeparator(), "\n");
    }

    private static void removeAll(Path dir) throws IOException {
        File[] files = dir.toFile().listFiles();
        for (File file : files == null ? new File[0] : files) {
            Files.delete(file.toPath());
        }
        Files.delete(dir);
    }

    private static void theTestsAreAllThereAre(String readme) throws IOException {
        Expect.sentence("how to run its tests");
        Set<String> told = new TreeSet<>();
        Matcher names = Pattern.compile("\\b[A-Z]\\w*Test\\b").matcher(readme);
        while (names.find()) {
            told.add(names.group());
        }
        Set<String> there = new TreeSet<>();
        for (String file : TESTS.toFile().list()) {
            if (file.endsWith("Test.java")) {
                there.add(file.substring(0, file.length() - ".java".length()));
            }
        }
        Expect.same("told are " + told + ", there are " + there, told.equals(there) ? 1 : 0, 1);
    }

    private static void everyCallIsTold(String readme) {
        Expect.sentence("how to use the class: every call of it");
        for (Method m : MigrateSteps.class.getDeclaredMethods()) {
            if (Modifier.isPublic(m.getModifiers())) {
                Expect.same(m.getName() + " is told", readme.contains("`" + m.getName() + "`") ? 1 : 0, 1);
            }
        }
    }
}
