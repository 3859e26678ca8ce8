import java.io.IOException;
import java.nio.file.Files;
import java.nio.file.Path;
import java.util.ArrayList;
import java.util.List;
import java.util.regex.Matcher;
import java.util.regex.Pattern;
import java.util.stream.Stream;

/** Each clause of the promises and of the terms has a test that begins with its words. */
final class SentencesTest {
    private static final Path TESTS = Path.of("src/test/java");
    private static final String WORDS = "\\((\\w+),\\s*\"((?:[^\"\\\\]|\\\\.)*)\"\\)";
    private static final Pattern OF_PROMISE = Pattern.compile("due\\.promise" + WORDS);
    private static final Pattern OF_TERMS = Pattern.compile("due\\.terms" + WORDS);
    private static final int PROMISES = 22;
    /** Headings, numbers of a list, and the two kinds of sentences that only tell where something stands. */
    private static final Pattern PROMISES_NOTHING = Pattern.compile(
            "#|\\d$|(THE SCREEN|SETTINGS|LIGHT AND GLASS|WANTED LEVELS|FRAMES|TEXTS|HISTORY|ERRORS)$"
            + "|Errors are reported by the constants below|Ahead of the calls ");

    public static void main(String[] args) throws IOException {
        Due due = new Due();
        String tests = read();
        List<String> ofTerms = new ArrayList<>();
        Matcher terms = OF_TERMS.matcher(tests);
        while (terms.find()) {
            ofTerms.add(words(terms));
        }
        clauses(due, "the terms", Document.terms(), ofTerms);
        for (int promise = 1; promise <= PROMISES; promise++) {
            List<String> ofPromise = new ArrayList<>();
            Matcher found = OF_PROMISE.matcher(tests);
            while (found.find()) {
                if (Integer.parseInt(found.group(1)) == promise) {
                    ofPromise.add(words(found));
                }
            }
            clauses(due, "promise " + promise, Document.promise(promise), ofPromise);
        }
        due.close("SentencesTest");
    }

    private static String read() throws IOException {
        StringBuilder all = new StringBuilder();
        try (Stream<Path> files = Files.list(TESTS)) {
            for (Path file : files.sorted().toList()) {
                all.append(Files.readString(file));
            }
        }
        return all.toString();
    }

    private static String words(Matcher found) {
        return found.group(2).replace("\\\"", "\"").replaceAll("[.;]$", "");
    }

    private static void clauses(Due due, String where, String text, List<String> tested) {
        for (String line : text.split("\n")) {
            for (String clause : clausesOf(line)) {
                boolean isTested = tested.stream().anyMatch(words ->
                        words.contains(clause) || clause.contains(words));
                due.check("a test of " + where + " is of \"" + clause + "\"", isTested);
            }
        }
    }

    /** The parts of a line that end with a "." or ";" in no parentheses, but for those without a promise. */
    private static List<String> clausesOf(String line) {
        List<String> clauses = new ArrayList<>();
        int start = 0;
        int depth = 0;
        for (int i = 0; i < line.length(); i++) {
            char sign = line.charAt(i);
            depth += sign == '(' ? 1 : sign == ')' ? -1 : 0;
            boolean isEnd = i + 1 == line.length() || line.charAt(i + 1) == ' ';
            if (depth == 0 && isEnd && (sign == '.' || sign == ';') || i + 1 == line.length()) {
                String clause = line.substring(start, sign == '.' || sign == ';' ? i : i + 1).strip();
                if (!PROMISES_NOTHING.matcher(clause).lookingAt()) {
                    clauses.add(clause);
                }
                start = i + 1;
            }
        }
        return clauses;
    }
}
