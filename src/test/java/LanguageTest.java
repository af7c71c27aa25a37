import java.io.IOException;
import java.nio.file.Files;
import java.nio.file.Path;
import java.util.regex.Matcher;
import java.util.regex.Pattern;

/** Rules of LANGUAGE.md that can be seen in the source text. */
public final class LanguageTest {
    // "some sixty lines", "some twelve classes"
    private static final int LONGEST_METHOD = 70;
    private static final int MOST_CLASSES = 14;

    public static void main(String[] args) throws IOException {
        Path root = Path.of(args.length > 0 ? args[0] : ".");
        String source = Files.readString(root.resolve("src/main/java/OfflineGates.java"));
        String code = source.replaceAll("(?s)/\\*.*?\\*/", "").replaceAll("//[^\n]*", "")
            .replaceAll("(case [^:;>]*|default) ->", "$1:")
            .replaceAll("import java\\.util\\.(ArrayList|List|Arrays|Iterator|NoSuchElementException);", "");
        for (int i = 0; i < code.length(); i++) {
            Check.isTrue("rule 4: sign " + i + " is plain", code.charAt(i) < 128);
        }
        none(code, "rule 1", "\\bpackage\\b|\\bprotected\\b");
        none(code, "rule 2", "->|::");
        none(code, "rule 3", "\\b(Map|Set|HashMap|Object|Long|Double)\\b(?!\\.)");
        none(code, "rule 4", "\\bimport\\b|Exact\\b|System\\.(?!arraycopy)");
        none(code, "rule 5", "\\bstatic\\s*\\{|\\bstatic (int|long|boolean|char|String|State)(\\[\\])? \\w+( =|;)");
        none(code, "rule 6", "\\b(finally|synchronized|assert|getMessage|Exception e|Throwable|"
            + "NullPointer\\w+|Array\\w+Exception|ClassCast\\w+)\\b");
        none(code, "rule 10", "\"\\s*\\+|\\+\\s*\"");
        none(code, "rule 13", "\\b(Random|Thread|nanoTime|currentTimeMillis|getenv)\\b");
        Check.isTrue("rule 11: classes", count(code, "\\bclass \\w+") <= MOST_CLASSES);
        methodsAreShort(source);
        Check.end();
    }

    private static void none(String code, String rule, String forbidden) {
        Matcher m = Pattern.compile(forbidden).matcher(code);
        Check.isTrue(rule + (m.find() ? ": '" + m.group() + "'" : ""), !m.find(0));
    }

    private static int count(String code, String what) {
        Matcher m = Pattern.compile(what).matcher(code);
        int found = 0;
        while (m.find()) {
            found++;
        }
        return found;
    }

    /** A method of this file starts at one or two steps in, and ends with a brace at the same place. */
    private static void methodsAreShort(String source) {
        String[] lines = source.split("\n");
        for (int i = 0; i < lines.length; i++) {
            Matcher start = Pattern.compile("^( {4}| {8})(?!.*\\bclass\\b)\\S.*\\) ?(throws .*)?\\{$").matcher(lines[i]);
            if (start.matches()) {
                int end = i;
                while (end < lines.length - 1 && !lines[end].equals(start.group(1) + "}")) {
                    end++;
                }
                Check.isTrue("rule 11: " + lines[i].trim(), end - i < LONGEST_METHOD);
            }
        }
    }
}
