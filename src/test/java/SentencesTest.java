import java.io.IOException;
import java.nio.file.Files;
import java.nio.file.Path;
import java.util.ArrayList;
import java.util.List;
import java.util.regex.Matcher;
import java.util.regex.Pattern;
import java.util.stream.Stream;

/** Each sentence that a test tells with says(..) is in the document, and none that names a boundary is left over. */
public final class SentencesTest {
    private static final Due due = new Due("SentencesTest");
    private static final Path DOCUMENT = Path.of("../shared/DOC.md");
    private static final Path TESTS = Path.of("src/test/java");
    private static final Pattern TOLD =
        Pattern.compile("\\bsays\\(\\s*(\"(?:[^\"\\\\]|\\\\.)*\"(?:\\s*\\+\\s*\"(?:[^\"\\\\]|\\\\.)*\")*)\\s*\\)");
    private static final Pattern BOUNDARY = Pattern.compile(
        "\\d \\.\\. |\\bBAD\\b|\\bNO\\b|\\bFULL\\b|\\bNONE\\b|-\\d|at most|at first|\\bnone\\b|FAULT|[Rr]efused|or more|empty");

    public static void main(String[] args) throws IOException {
        String left = promises(plain(Files.readString(DOCUMENT)));
        List<String> sentences = told();
        for (String sentence : sentences) {
            due.holds("the document says: " + sentence, left.contains(sentence));
        }
        for (String sentence : sentences) {
            left = left.replace(sentence, " ");
        }
        Matcher m = BOUNDARY.matcher(left);
        while (m.find()) {
            int from = Math.max(0, m.start() - 60);
            int to = Math.min(left.length(), m.end() + 60);
            due.holds("a test for the boundary '" + m.group() + "' in: " + left.substring(from, to), false);
        }
        due.end();
    }

    private static String plain(String text) {
        return text.replace("```text", " ").replaceAll("\\s+", " ");
    }

    /** What the document promises: from where its hours begin to what it does not promise, without its face. */
    private static String promises(String document) {
        String all = document.substring(document.indexOf("1 HOURS have"), document.indexOf("## Not promised"));
        return all.replaceAll("```java.*?```", " ");
    }

    private static List<String> told() throws IOException {
        List<String> sentences = new ArrayList<>();
        try (Stream<Path> files = Files.list(TESTS)) {
            for (Path file : files.filter(f -> f.toString().endsWith("Test.java")).toList()) {
                Matcher m = TOLD.matcher(Files.readString(file));
                while (m.find()) {
                    sentences.add(m.group(1).replaceAll("\"\\s*\\+\\s*\"", "").replaceAll("^\"|\"$", ""));
                }
            }
        }
        // the longer ones go first, so that a part of one does not break it
        sentences.sort((a, b) -> b.length() - a.length());
        return sentences;
    }
}
