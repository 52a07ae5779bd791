import java.io.IOException;
import java.nio.file.Files;
import java.nio.file.Path;
import java.util.ArrayList;
import java.util.BitSet;
import java.util.List;
import java.util.regex.Matcher;
import java.util.regex.Pattern;
import java.util.stream.Stream;

/** Whether the words that tests say they are about stand in the document, and no sentence of it is without a test. */
public final class DocumentTest {
    private static final Check check = new Check("DocumentTest");
    private static final Pattern QUOTE = Pattern.compile("check\\.sentence\\(\"([^\"]*)\"\\)");
    /** Words of the terms and promises that tell what something is called, not what an answer is. */
    private static final String[] NOTHING_TO_TEST = {
        "Words in capitals are told where they come first.",
        "All numbers are whole.",
    };

    public static void main(String[] args) throws IOException {
        String text = plain(Files.readString(Path.of("../shared/DOC.md")));
        List<String> quotes = quotes();
        BitSet covered = new BitSet(text.length());
        for (String quote : quotes) {
            check.holds("the document says: " + quote, cover(text, quote, covered));
        }
        for (String words : NOTHING_TO_TEST) {
            check.holds("the document says: " + words, cover(text, words, covered));
        }
        check.holds("there are many quotes", quotes.size() > 100);
        for (String left : left(text, covered)) {
            check.holds("a test for: " + left, false);
        }
        check.end();
    }

    /** The terms and the promises as one row of words: no headings, and nothing of how it is set. */
    private static String plain(String document) {
        StringBuilder text = new StringBuilder();
        boolean isIn = false;
        for (String line : document.split("\n")) {
            if (line.startsWith("## ")) {
                isIn = line.startsWith("## Terms") || line.startsWith("## Promise");
            } else if (isIn && !line.startsWith("```") && !line.startsWith("Ahead of the calls")) {
                text.append(line.replaceFirst("^======== \\d+ ", "")).append(' ');
            } else if (line.startsWith("An object is used for")) {
                text.append(line).append(' ');
            }
        }
        return text.toString().replaceAll("\\s+", " ");
    }

    private static List<String> quotes() throws IOException {
        List<String> quotes = new ArrayList<>();
        List<Path> files;
        try (Stream<Path> tests = Files.list(Path.of("src/test/java"))) {
            files = tests.filter(p -> p.toString().endsWith("Test.java")).sorted().toList();
        }
        for (Path file : files) {
            Matcher found = QUOTE.matcher(Files.readString(file));
            while (found.find()) {
                quotes.add(found.group(1));
            }
        }
        return quotes;
    }

    private static boolean cover(String text, String words, BitSet covered) {
        int at = text.indexOf(words);
        if (at >= 0) {
            covered.set(at, at + words.length());
        }
        return at >= 0;
    }

    private static List<String> left(String text, BitSet covered) {
        List<String> left = new ArrayList<>();
        int from = covered.nextClearBit(0);
        while (from < text.length()) {
            int to = covered.nextSetBit(from);
            to = to < 0 ? text.length() : to;
            String words = text.substring(from, to).strip();
            if (words.chars().anyMatch(Character::isLetterOrDigit)) {
                left.add(words);
            }
            from = covered.nextClearBit(to);
        }
        return left;
    }
}
