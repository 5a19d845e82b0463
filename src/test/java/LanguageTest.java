import java.nio.file.Files;
import java.nio.file.Path;
import java.util.Set;
import java.util.regex.Matcher;
import java.util.regex.Pattern;

/** What of LANGUAGE.md can be seen in the text of the class. */
public final class LanguageTest {
    private static final Set<String> WORDS_OUT = Set.of("throw", "throws", "try", "catch", "finally", "synchronized",
        "assert", "protected", "volatile", "native", "transient", "package", "strictfp", "Object", "Class", "Thread",
        "Runtime", "Random", "Date", "Instant", "var", "double", "float", "hashCode", "toString");
    private static final Set<String> CALLS_IN = Set.of("Math.max", "Math.min", "Math.abs", "Math.floorMod",
        "System.arraycopy", "Arrays.fill");

    public static void main(String[] args) throws Exception {
        Check c = new Check("LANGUAGE.md");
        String source = Files.readString(Path.of("src/main/java/SharedSurplus.java"));
        String bare = source.replaceAll("(?s)/\\*.*?\\*/", "").replaceAll("//[^\n]*", "").replaceAll("\"[^\"\n]*\"", "\"\"")
            .replaceAll("'[^'\n]*'", "'x'");
        for (String word : WORDS_OUT) {
            c.due("the word " + word, Pattern.compile("\\b" + word + "\\b").matcher(bare).find(), false);
        }
        c.due("a lambda or an arrow", bare.contains("->"), false);
        c.due("a method reference", bare.contains("::"), false);
        c.due("an annotation", bare.contains("@"), false);
        c.due("only ASCII", source.chars().allMatch(s -> s == 10 || s >= 32 && s < 127), true);
        Matcher imports = Pattern.compile("import ([\\w.]+);").matcher(bare);
        while (imports.find()) {
            c.due("import " + imports.group(1), imports.group(1).equals("java.util.Arrays"), true);
        }
        Matcher calls = Pattern.compile("\\b(Math|System|Arrays|Integer|Long|String|StringBuilder)\\.\\w+").matcher(bare);
        while (calls.find()) {
            c.due("the library's " + calls.group(), CALLS_IN.contains(calls.group()), true);
        }
        Matcher statics = Pattern.compile("\\bstatic (?!final )(?!class )([^;{=]*)([;={])").matcher(bare);
        while (statics.find()) {
            c.due("static field " + statics.group(1), statics.group(1).contains("("), true);
        }
        methodLengths(c, bare);
        Check.end();
    }

    private static void methodLengths(Check c, String bare) {
        String[] lines = bare.split("\n");
        Pattern head = Pattern.compile("^( {4}| {8})\\S.*\\) \\{$");
        for (int i = 0; i < lines.length; i++) {
            if (!head.matcher(lines[i]).find()) {
                continue;
            }
            String indent = lines[i].replaceAll("\\S.*", "");
            int end = i;
            while (end < lines.length && !lines[end].equals(indent + "}")) {
                end++;
            }
            c.due(lines[i].trim() + " has " + (end - i + 1) + " lines", end - i < 60, true);
        }
    }
}
