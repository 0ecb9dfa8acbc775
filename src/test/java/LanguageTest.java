import java.io.IOException;
import java.nio.file.Files;
import java.nio.file.Path;
import java.util.List;
import java.util.regex.Matcher;
import java.util.regex.Pattern;

/** What of LANGUAGE.md can be seen in the source by its text. */
public final class LanguageTest {
    private static final String[] FORBIDDEN = {
        "->", "::", "\\bfinally\\b", "\\bsynchronized\\b", "\\bassert\\b", "\\bcatch\\b", "\\btry\\b", "\\bvar\\b",
        "\\bprotected\\b", "Exact\\b", "\\bSystem\\.(?!arraycopy)", "\"\\s*\\+", "\\+\\s*\"", "\\.equals\\(",
        "\\bwhile\\b", "^import (?!java\\.util\\.NoSuchElementException;)", "\\bthrow new (?!(IllegalStateException|"
        + "IllegalArgumentException|IndexOutOfBoundsException|NoSuchElementException)\\(\"[^\"]*\"\\);)",
        "[^\\x00-\\x7f]", "^package"};

    private LanguageTest() {
    }

    public static void main(String[] args) throws IOException {
        List<String> lines = Files.readAllLines(Path.of("src/main/java/FoundThings.java"));
        for (String forbidden : FORBIDDEN) {
            Pattern pattern = Pattern.compile(forbidden);
            for (int i = 0; i < lines.size(); i++) {
                boolean comment = lines.get(i).trim().startsWith("*") || lines.get(i).trim().startsWith("/");
                Check.due("line " + (i + 1) + " has " + forbidden, 0,
                    !comment && pattern.matcher(lines.get(i)).find() ? 1 : 0);
            }
        }
        shape(lines);
        Check.end();
    }

    private static void shape(List<String> lines) {
        Pattern head = Pattern.compile("^( {8}| {4})(?! )(?!.*\\b(class|new)\\b)[\\w ]*[\\w\\[\\]]+ \\w+\\(([^)]*)\\).*");
        int classes = 0;
        int start = -1;
        String indent = "";
        for (int i = 0; i < lines.size(); i++) {
            String line = lines.get(i);
            classes += line.matches(".*\\b(class|enum|record|interface) [A-Z].*\\{") ? 1 : 0;
            Matcher matcher = head.matcher(line);
            if (start < 0 && matcher.matches() && !line.contains("=") && !line.trim().startsWith("return")
                    && !line.endsWith(";")) {
                start = i;
                indent = matcher.group(1);
                Check.due("parameters in line " + (i + 1), 1, matcher.group(3).split(",").length <= 7 ? 1 : 0);
            } else if (start >= 0 && line.equals(indent + "}")) {
                Check.due("short method in line " + (start + 1), 1, i - start <= 60 ? 1 : 0);
                start = -1;
            }
        }
        Check.due("at most twelve classes", 1, classes <= 12 ? 1 : 0);
        Check.due("classes seen", 1, classes > 1 ? 1 : 0);
    }
}
