import java.io.File;
import java.io.IOException;
import java.lang.reflect.Method;
import java.lang.reflect.Modifier;
import java.nio.file.Files;
import java.nio.file.Path;
import java.util.Comparator;
import java.util.List;
import java.util.concurrent.TimeUnit;
import java.util.stream.Collectors;
import java.util.stream.Stream;
import javax.tools.JavaCompiler;
import javax.tools.ToolProvider;

/** README.md names every call, and its example compiles beside the class and prints what README.md says. */
public final class ReadmeTest {
    public static void main(String[] args) throws Exception {
        Check c = new Check("README.md");
        String readme = Files.readString(Path.of("README.md"));
        for (Method m : SharedSurplus.class.getDeclaredMethods()) {
            if (Modifier.isPublic(m.getModifiers())) {
                c.due("it names " + m.getName(), readme.contains("`" + m.getName() + "`"), true);
            }
        }
        for (String test : testsOfTheProject()) {
            c.due("it names " + test, readme.contains("`" + test + "`"), true);
        }
        String printed = runExample(block(readme, "java"));
        c.due("the example prints what it says, not:\n" + printed, printed.equals(block(readme, "text")), true);
        Check.end();
    }

    private static List<String> testsOfTheProject() throws IOException {
        try (Stream<Path> files = Files.list(Path.of("src/test/java"))) {
            return files.map(f -> f.getFileName().toString()).filter(f -> f.endsWith("Test.java"))
                .map(f -> f.substring(0, f.length() - ".java".length())).collect(Collectors.toList());
        }
    }

    /** The first block of a language. */
    private static String block(String readme, String language) {
        String opening = "\n```" + language + "\n";
        int from = readme.indexOf(opening);
        if (from < 0) {
            throw new IllegalStateException("README.md has no block of " + language);
        }
        from += opening.length();
        return readme.substring(from, readme.indexOf("```\n", from));
    }

    private static String runExample(String source) throws Exception {
        Path work = Files.createTempDirectory("readme");
        try {
            Path file = Files.writeString(work.resolve("Example.java"), source);
            JavaCompiler compiler = ToolProvider.getSystemJavaCompiler();
            if (compiler.run(null, null, null, "-d", work.toString(), "src/main/java/SharedSurplus.java", file.toString()) != 0) {
                return "nothing: it does not compile";
            }
            File output = work.resolve("output").toFile();
            Process example = new ProcessBuilder(Path.of(System.getProperty("java.home"), "bin", "java").toString(),
                "-cp", work.toString(), "Example").redirectErrorStream(true).redirectOutput(output).start();
            if (!example.waitFor(60, TimeUnit.SECONDS)) {
                example.destroyForcibly();
                return "nothing: it does not end";
            }
            return Files.readString(output.toPath()).replace("\r\n", "\n");
        } finally {
            remove(work);
        }
    }

    private static void remove(Path work) throws IOException {
        try (Stream<Path> inside = Files.walk(work)) {
            inside.sorted(Comparator.reverseOrder()).map(Path::toFile).forEach(File::delete);
        }
    }
}
