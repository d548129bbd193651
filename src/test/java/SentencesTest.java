import java.io.IOException;
import java.nio.file.Files;
import java.nio.file.Path;
import java.util.ArrayList;
import java.util.List;
import java.util.regex.Matcher;
import java.util.regex.Pattern;
import java.util.stream.Stream;

/** Each word of the document from "Terms" to the last promise stands in a sentence that a test names. */
public final class SentencesTest {
    private static final Path TESTS = Path.of("src", "test", "java");
    private static final String WRITTEN = "\"[^\"]*\"";
    private static final Pattern NAMED =
            Pattern.compile("Check\\.sentence\\(\\s*(" + WRITTEN + "(?:\\s*\\+\\s*" + WRITTEN + ")*)\\s*\\)");
    /** Titles, signs of layout, and how a call is written: FaceTest looks at that. */
    private static final Pattern NO_SENTENCE = Pattern.compile("## Promise \\d+: (A new object|\\w+)|```(text)?|==== \\d\\.|`[^`]+`:");

    public static void main(String[] args) throws IOException {
        List<String> sentences = namedSentences();
        Check.due("sentences are named", sentences.size() > 100, true);
        everyWordIsNamed(promised(Check.document()), sentences);
        Check.end();
    }

    private static String promised(String document) {
        int begin = document.indexOf("## Terms ");
        int end = document.indexOf("## Not promised");
        Check.due("the document has Terms and promises", begin >= 0 && end > begin, true);
        return begin >= 0 && end > begin ? document.substring(begin + "## Terms ".length(), end) : "";
    }

    private static List<String> namedSentences() throws IOException {
        List<String> sentences = new ArrayList<>();
        try (Stream<Path> files = Files.list(TESTS)) {
            for (Path file : files.filter(path -> path.toString().endsWith("Test.java")).toList()) {
                Matcher named = NAMED.matcher(Files.readString(file));
                while (named.find()) {
                    sentences.add(named.group(1).replaceAll("\"\\s*\\+\\s*\"", "").replace("\"", ""));
                }
            }
        }
        return sentences;
    }

    private static void everyWordIsNamed(String text, List<String> sentences) {
        boolean[] named = new boolean[text.length()];
        for (String sentence : sentences) {
            for (int at = text.indexOf(sentence); at >= 0; at = text.indexOf(sentence, at + 1)) {
                mark(named, at, at + sentence.length());
            }
        }
        Matcher other = NO_SENTENCE.matcher(text);
        while (other.find()) {
            mark(named, other.start(), other.end());
        }
        Matcher word = Pattern.compile("\\w+").matcher(text);
        while (word.find()) {
            String around = text.substring(Math.max(0, word.start() - 30), Math.min(text.length(), word.end() + 30));
            Check.due("a test names '" + word.group() + "' in '" + around + "'", named[word.start()], true);
        }
    }

    private static void mark(boolean[] named, int begin, int end) {
        for (int at = begin; at < end; at++) {
            named[at] = true;
        }
    }
}
