import java.io.IOException;
import java.nio.file.DirectoryStream;
import java.nio.file.Files;
import java.nio.file.Path;
import java.util.TreeSet;
import java.util.regex.Matcher;
import java.util.regex.Pattern;

/** Each promise of the document has tests of its edges that name it, and of calls that leave all as it was. */
public final class CoveredTest {
    private static final Path TESTS = Path.of("src/test/java");
    private static final Pattern EDGE = Pattern.compile("Check\\.promise\\((\\d+), \"");
    private static final Pattern CALL = Pattern.compile("\\b(?:refused|asked)\\((?:law \\? )?(\\d+)");

    private CoveredTest() {
    }

    public static void main(String[] args) throws IOException {
        TreeSet<Integer> edges = new TreeSet<>();
        try (DirectoryStream<Path> files = Files.newDirectoryStream(TESTS, "*EdgesTest.java")) {
            for (Path file : files) {
                edges.addAll(named(EDGE, file));
            }
        }
        TreeSet<Integer> calls = named(CALL, TESTS.resolve("RefusedCallsTest.java"));
        for (int promise = 1; promise <= 44; promise++) {
            Check.due("edges of promise " + promise, 1, edges.contains(promise) ? 1 : 0);
            boolean constructor = promise == 1;
            Check.due("calls of promise " + promise, 1, constructor || calls.contains(promise) ? 1 : 0);
        }
        Check.due("promises with edges", 44, edges.size());
        Check.end();
    }

    private static TreeSet<Integer> named(Pattern pattern, Path file) throws IOException {
        TreeSet<Integer> promises = new TreeSet<>();
        Matcher matcher = pattern.matcher(Files.readString(file));
        while (matcher.find()) {
            promises.add(Integer.parseInt(matcher.group(1)));
        }
        return promises;
    }
}
