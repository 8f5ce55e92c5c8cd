import java.io.IOException;
import java.nio.charset.StandardCharsets;
import java.nio.file.Files;
import java.nio.file.Path;
import java.util.List;

/**
 * The words of the document, quoted in their order by the tests that hold to them. A part of the document is covered
 * if the quotes, put one behind the other, are all its words: no sentence of it is then without a test.
 */
final class Sentences {
    private static final Path DOCUMENT = Path.of("../shared/DOC.md");
    private static final StringBuilder QUOTED = new StringBuilder();

    private Sentences() {
    }

    /** The answers from here on hold to these words, which stand ahead of the promises. */
    static void terms(String words) {
        Due.terms(words);
        quote(words);
    }

    /** The answers from here on hold to these words of a promise. */
    static void promise(int number, String words) {
        Due.promise(number, words);
        quote(words);
    }

    /** Words that promise nothing. */
    static void passed(String words) {
        quote(words);
    }

    private static void quote(String words) {
        QUOTED.append(words).append(' ');
    }

    /** The quotes so far are all the words from this heading to that one, or to the end; others begin behind them. */
    static void areAllFrom(String heading, String next) throws IOException {
        Due.terms("all words from " + heading);
        String quoted = QUOTED.toString().trim();
        QUOTED.setLength(0);
        if (!Files.exists(DOCUMENT)) {
            System.out.println(DOCUMENT + " is not here: the quotes were not compared with it");
            return;
        }
        String words = wordsOf(Files.readAllLines(DOCUMENT, StandardCharsets.UTF_8), heading, next);
        int same = 0;
        while (same < words.length() && same < quoted.length() && words.charAt(same) == quoted.charAt(same)) {
            same++;
        }
        Due.dueText("the document at sign " + same, near(quoted, same), near(words, same));
        Due.due("signs", quoted.length(), words.length());
    }

    private static String near(String text, int at) {
        return text.substring(Math.max(0, at - 30), Math.min(text.length(), at + 60));
    }

    /** Without headings, fences and the head of a call, which FaceTest compares. */
    private static String wordsOf(List<String> lines, String heading, String next) {
        StringBuilder words = new StringBuilder();
        boolean isWithin = false;
        for (String line : lines) {
            if (line.equals(next)) {
                break;
            }
            isWithin |= line.equals(heading);
            if (isWithin && !line.startsWith("#") && !line.startsWith("```")) {
                words.append(line.replaceFirst("^`[^`]*`: ", "")).append(' ');
            }
        }
        return words.toString().replaceAll("\\s+", " ").trim();
    }
}
