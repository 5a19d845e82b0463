import java.io.IOException;
import java.nio.file.Files;
import java.nio.file.Path;
import java.util.List;
import java.util.Set;
import java.util.TreeSet;
import java.util.regex.Matcher;
import java.util.regex.Pattern;
import java.util.stream.Collectors;
import java.util.stream.Stream;

/** Every promise and every section of the Terms has sentences that an Edge test names, in the document's own words. */
public final class SentencesTest {
    private static final Pattern EDGE = Pattern.compile("new Edge\\(\"([^\"]*)\", \"([^\"]*)\"\\)");

    public static void main(String[] args) throws IOException {
        Check c = new Check("sentences");
        String document = Files.readString(Path.of("../shared/DOC.md"));
        Set<String> places = new TreeSet<>();
        int sentences = 0;
        for (Path file : edgeTests()) {
            Matcher edge = EDGE.matcher(Files.readString(file));
            while (edge.find()) {
                places.add(edge.group(1));
                sentences++;
                // A document that has been put in other words is to be read again, but breaks no promise by that.
                if (!document.contains(edge.group(2))) {
                    System.out.println(file.getFileName() + ": the document has no more \"" + edge.group(2) + "\"");
                }
            }
        }
        for (int n = 1; n <= 34; n++) {
            c.due("promise " + n + " is named", places.contains("Promise " + n), true);
        }
        for (String place : List.of("Terms", "Section 2", "Section 3", "Section 4", "Section 5", "Section 6")) {
            c.due(place + " is named", places.contains(place), true);
        }
        System.out.println(sentences + " sentences of the document have tests of their own");
        Check.end();
    }

    private static List<Path> edgeTests() throws IOException {
        try (Stream<Path> files = Files.list(Path.of("src/test/java"))) {
            return files.filter(f -> f.getFileName().toString().startsWith("Edge")).sorted().collect(Collectors.toList());
        }
    }
}
