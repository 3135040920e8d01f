import java.io.IOException;
import java.nio.file.Files;
import java.nio.file.Path;
import java.util.ArrayList;
import java.util.Arrays;
import java.util.List;
import java.util.regex.Matcher;
import java.util.regex.Pattern;
import java.util.stream.Stream;

/**
 * Each sentence of the document, from what it is to its last promise, is quoted by a test, and no test
 * quotes what the document does not say, so that a sentence that comes or changes asks for a test. It
 * runs in the project's folder.
 */
final class SentencesTest {
    private static final Path DOCUMENT = Path.of("../shared/DOC.md");
    private static final Path TESTS = Path.of("src/test/java");
    private static final Pattern CALL = Pattern.compile("Check\\.sentence\\(((?:\\s*\\+?\\s*\"[^\"]*\")+)\\s*\\);");
    private static final Pattern WORDS = Pattern.compile("\"([^\"]*)\"");

    public static void main(String[] args) throws IOException {
        String document = sentencesOf(Files.readString(DOCUMENT));
        boolean[] quoted = new boolean[document.length()];
        for (String quote : quotes()) {
            Check.same("the document says: " + quote, mark(document, quote, quoted), true);
        }
        Matcher word = Pattern.compile("[A-Za-z0-9]+").matcher(document);
        while (word.find()) {
            String round = document.substring(Math.max(0, word.start() - 30), Math.min(document.length(), word.end() + 30));
            Check.same("a test quotes \"" + word.group() + "\" in .. " + round + " ..", quoted[word.start()], true);
        }
        Check.close("the sentences");
    }

    /** Without headings, the class's face and the methods' heads, which FaceTest holds. */
    private static String sentencesOf(String document) {
        int start = document.indexOf("## What it is");
        int face = document.indexOf("## The public face");
        int terms = document.indexOf("## Terms");
        int end = document.indexOf("## Not promised");
        Check.same("the document has its parts", start >= 0 && face > start && terms > face && end > terms, true);
        String text = document.substring(start, face) + document.substring(terms, end);
        return text.replaceAll("(?m)^(#.*|```.*)$", " ").replaceAll("`[^`\n]*`:?", " ").replaceAll("\\s+", " ");
    }

    private static List<String> quotes() throws IOException {
        List<String> quotes = new ArrayList<>();
        try (Stream<Path> files = Files.list(TESTS)) {
            for (Path file : files.sorted().toList()) {
                String text = Files.readString(file);
                Matcher call = CALL.matcher(text);
                while (call.find()) {
                    quotes.add(joined(call.group(1)));
                }
            }
        }
        return quotes;
    }

    private static String joined(String literals) {
        StringBuilder quote = new StringBuilder();
        Matcher words = WORDS.matcher(literals);
        while (words.find()) {
            quote.append(words.group(1));
        }
        return quote.toString();
    }

    /** Whether the words are in the document; all places where they are count as quoted. */
    private static boolean mark(String document, String quote, boolean[] quoted) {
        int from = document.indexOf(quote);
        boolean found = from >= 0;
        while (from >= 0) {
            Arrays.fill(quoted, from, from + quote.length(), true);
            from = document.indexOf(quote, from + 1);
        }
        return found;
    }
}
