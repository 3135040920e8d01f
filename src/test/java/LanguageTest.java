import java.io.IOException;
import java.nio.file.Files;
import java.nio.file.Path;
import java.util.List;
import java.util.Set;
import java.util.TreeSet;
import java.util.regex.Matcher;
import java.util.regex.Pattern;

/** What can be told of ../shared/LANGUAGE.md from the program's text alone; it runs in the project's folder. */
final class LanguageTest {
    private static final Path PROGRAM = Path.of("src/main/java/TierHouse.java");
    private static final List<String> BARRED = List.of("package ", "->", "::", "synchronized", "assert",
        "finally", "extends Exception", "System.out", "System.err", "Exact(", "static {", "import static",
        "java.util.Random", "java.io", "java.time", "Thread", "hashCode", "toString()", "@SuppressWarnings", "HashMap");
    private static final Set<String> IMPORTS = Set.of("java.util.ArrayList", "java.util.List", "java.util.Arrays",
        "java.util.Iterator", "java.util.NoSuchElementException");
    private static final Set<String> EXCEPTIONS = Set.of("IllegalArgumentException", "UnsupportedOperationException");

    public static void main(String[] args) throws IOException {
        String text = Files.readString(PROGRAM);
        String code = text.replaceAll("(?s)/\\*.*?\\*/", " ").replaceAll("//[^\n]*", " ");
        Check.same("all signs are 1 to 127", text.chars().allMatch(c -> c > 0 && c < 128), true);
        for (String barred : BARRED) {
            Check.same("the program has " + barred, code.contains(barred), false);
        }
        Check.same("imports " + found("import ([\\w.]+);", code), IMPORTS.containsAll(found("import ([\\w.]+);", code)), true);
        Set<String> thrown = found("throw new (\\w+)\\(", code);
        Check.same("throws " + thrown, thrown.equals(EXCEPTIONS), true);
        Check.same("static fields are final", found("(static (?!final)[\\w\\[\\]]+ \\w+( =|;))", code).isEmpty(), true);
        shortMethods(text);
        Check.close("the language");
    }

    private static Set<String> found(String pattern, String code) {
        Set<String> all = new TreeSet<>();
        Matcher matcher = Pattern.compile(pattern).matcher(code);
        while (matcher.find()) {
            all.add(matcher.group(1));
        }
        return all;
    }

    private static void shortMethods(String text) {
        int start = 0;
        String[] lines = text.split("\n");
        for (int k = 0; k < lines.length; k++) {
            if (lines[k].matches(" {4}\\S.*\\{")) {
                start = k;
            }
            if (lines[k].equals("    }") && !lines[start].contains(" class ")) {
                Check.same("lines of" + lines[start] + " are at most 60", k - start < 60, true);
            }
        }
    }
}
