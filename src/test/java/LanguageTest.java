import java.io.IOException;
import java.nio.file.Files;
import java.nio.file.Path;
import java.util.List;
import java.util.regex.Matcher;
import java.util.regex.Pattern;

/** Those rules of LANGUAGE.md that can be read off the source line by line. */
final class LanguageTest {
    private static final Path SOURCE = Path.of("src/main/java/ZonedLight.java");
    private static final int LONGEST_METHOD = 60;
    private static final String[] BANNED = {
        "\\bimport\\b", "\\bpackage\\b", "\\btry\\b", "\\bcatch\\b", "\\bthrow\\b", "\\bfinally\\b",
        "\\bassert\\b", "\\bsynchronized\\b", "->", "::", "\\binstanceof\\b", "Exact\\b",
        "\\bprotected\\b", "\\bstatic \\{", "\\bfloat\\b", "\\.\\.\\.", "@"
    };

    public static void main(String[] args) throws IOException {
        Due due = new Due();
        List<String> lines = Files.readAllLines(SOURCE);
        for (int i = 0; i < lines.size(); i++) {
            String where = SOURCE + ":" + (i + 1);
            String line = lines.get(i);
            due.due(where + " signs 1 to 127", line.chars().allMatch(c -> c > 0 && c < 128) ? 1 : 0, 1);
            due.due(where + " short lines", line.length() <= 110 ? 1 : 0, 1);
            if (!line.strip().startsWith("*") && !line.strip().startsWith("/")) {
                code(due, where, line);
            }
        }
        methods(due, lines);
        due.close("LanguageTest");
    }

    private static void code(Due due, String where, String line) {
        for (String banned : BANNED) {
            due.due(where + " has " + banned, Pattern.compile(banned).matcher(line).find() ? 1 : 0, 0);
        }
        if (line.contains(" static ") && line.contains("=") && !line.contains("(")) {
            due.due(where + " final", line.contains(" final ") ? 1 : 0, 1);
        }
    }

    /** Methods are short, take seven parameters at most, and no private one has a public name. */
    private static void methods(Due due, List<String> lines) {
        Pattern head = Pattern.compile("^( +)(?:\\w+ )*(\\w+)\\(([^()]*)\\) \\{$");
        String names = "";
        for (int i = 0; i < lines.size(); i++) {
            Matcher found = head.matcher(lines.get(i));
            if (found.matches() && !found.group(2).matches("if|for|while|switch")) {
                int end = i;
                while (!lines.get(end).equals(found.group(1) + "}")) {
                    end++;
                }
                String where = SOURCE + ":" + (i + 1);
                due.due(where + " short", end - i <= LONGEST_METHOD ? 1 : 0, 1);
                due.due(where + " parameters", found.group(3).split(",").length <= 7 ? 1 : 0, 1);
                boolean isPublic = lines.get(i).contains("public ");
                due.due(where + " name", names.contains(" " + found.group(2) + " ") && !isPublic ? 1 : 0, 0);
                names += isPublic ? " " + found.group(2) + " " : "";
            }
        }
        due.due("public names: " + names, names.strip().split(" +").length, 22);
    }
}
