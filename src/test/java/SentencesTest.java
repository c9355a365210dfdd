import java.io.IOException;
import java.nio.file.Files;
import java.nio.file.Path;
import java.util.ArrayList;
import java.util.List;
import java.util.Map;
import java.util.TreeMap;
import java.util.regex.Matcher;
import java.util.regex.Pattern;
import java.util.stream.Stream;

/**
 * Holds the tests against the document: each sentence that they quote stands there, in the promise that they name, and
 * each "Throws", each "Returns" and each sentence of the Terms is quoted by a test.
 */
public final class SentencesTest {

    private static final Pattern QUOTE =
            Pattern.compile("says\\((TERMS|\\d+),\\s*((?:\"(?:[^\"\\\\]|\\\\.)*\"\\s*\\+?\\s*)+)\\)");
    private static final Pattern TEXT = Pattern.compile("\"((?:[^\"\\\\]|\\\\.)*)\"");

    private static final Map<Integer, String> sections = new TreeMap<>();
    private static final Map<Integer, List<String>> quotes = new TreeMap<>();
    private static int wrong = 0;

    public static void main(String[] args) throws IOException {
        readDocument();
        readTests();
        quotesStandThere();
        for (int promise = 1; promise <= 61; promise++) {
            promiseIsTried(promise);
        }
        termsAreTried();
        System.out.println(wrong == 0 ? "each sentence of the document has a test" : wrong + " sentences are amiss");
        if (wrong != 0) {
            System.exit(1);
        }
    }

    private static void fault(String text) {
        wrong++;
        System.out.println(text);
    }

    private static void readDocument() throws IOException {
        int section = -1;
        for (String line : Files.readAllLines(Path.of("../shared/DOC.md"))) {
            if (line.startsWith("## ")) {
                Matcher promise = Pattern.compile("## Promise (\\d+):.*").matcher(line);
                section = promise.matches() ? Integer.parseInt(promise.group(1)) : line.equals("## Terms") ? 0 : -1;
            } else if (section >= 0) {
                sections.merge(section, line.trim() + "\n", String::concat);
            }
        }
    }

    private static void readTests() throws IOException {
        try (Stream<Path> files = Files.list(Path.of("src/test/java"))) {
            for (Path file : files.sorted().toList()) {
                Matcher quote = QUOTE.matcher(Files.readString(file));
                while (quote.find()) {
                    int section = quote.group(1).equals("TERMS") ? 0 : Integer.parseInt(quote.group(1));
                    quotes.computeIfAbsent(section, s -> new ArrayList<>()).add(joined(quote.group(2)));
                }
            }
        }
    }

    private static String joined(String parts) {
        StringBuilder text = new StringBuilder();
        Matcher part = TEXT.matcher(parts);
        while (part.find()) {
            text.append(part.group(1).replace("\\\"", "\""));
        }
        return text.toString();
    }

    private static List<String> quotesOf(int section) {
        return quotes.getOrDefault(section, List.of());
    }

    private static void quotesStandThere() {
        for (int section : quotes.keySet()) {
            for (String quote : quotesOf(section)) {
                if (!sections.getOrDefault(section, "").contains(quote)) {
                    fault("promise " + section + " does not say: " + quote);
                }
            }
        }
    }

    private static void promiseIsTried(int promise) {
        if (quotesOf(promise).isEmpty()) {
            fault("no test quotes promise " + promise);
        }
        for (String line : sections.getOrDefault(promise, "").split("\n")) {
            Matcher refusal = Pattern.compile("Throws `\\w+` if (.*)").matcher(line);
            if (refusal.matches() && !quotesOf(promise).contains(refusal.group(1))) {
                fault("promise " + promise + " has no test of its refusal: " + refusal.group(1));
            }
            if (line.startsWith("Returns ") && !isQuoted(promise, line)) {
                fault("promise " + promise + " has no test of: " + line);
            }
        }
    }

    /** A test may quote a part of a sentence, or more than it. */
    private static boolean isQuoted(int section, String sentence) {
        for (String quote : quotesOf(section)) {
            if (sentence.contains(quote) || quote.contains(sentence)) {
                return true;
            }
        }
        return false;
    }

    private static void termsAreTried() {
        String terms = sections.getOrDefault(0, "");
        int start = terms.indexOf("NONE is -1");
        int end = terms.indexOf("Ahead of the calls");
        if (start < 0 || end < start) {
            fault("the Terms are not found");
            return;
        }
        for (String line : terms.substring(start, end).split("\n")) {
            // The headings of the parts and the marks of blocks say nothing.
            boolean isText = !line.startsWith("==") && !line.startsWith("```");
            for (String sentence : isText ? line.split("(?<=[.;])\\)? (?=[A-Z(a-z])") : new String[0]) {
                if (!sentence.isBlank() && !isQuoted(0, sentence.trim())) {
                    fault("the Terms have no test of: " + sentence.trim());
                }
            }
        }
    }
}
