import java.io.IOException;
import java.net.URL;
import java.net.URLClassLoader;
import java.nio.file.Files;
import java.nio.file.Path;
import java.util.regex.Matcher;
import java.util.regex.Pattern;
import javax.tools.ToolProvider;

/** What README.md shows as Java is compiled and run: each call answers what stands behind it. */
public final class ReadmeTest {
    private static final Pattern BLOCK = Pattern.compile("```java\\n(.*?)```", Pattern.DOTALL);
    private static final Pattern ANSWER = Pattern.compile("^(x\\..*);\\s*// (-?\\d+|true|false): .*$", Pattern.MULTILINE);

    private ReadmeTest() {
    }

    public static void main(String[] args) throws IOException, ReflectiveOperationException {
        StringBuilder methods = new StringBuilder();
        StringBuilder calls = new StringBuilder();
        Matcher block = BLOCK.matcher(Files.readString(Path.of("README.md")));
        while (block.find()) {
            (block.group(1).startsWith("static") ? methods : calls).append(block.group(1));
        }
        long shown = calls.toString().lines().filter(line -> line.startsWith("x.")).count();
        Check.due("calls on the page", 1, shown > 40 ? 1 : 0);
        Check.due("those with an answer", shown, ANSWER.matcher(calls).results().count());
        String due = ANSWER.matcher(calls).replaceAll("answers.append($1).append(\" due $2\\\\n\");");
        for (String answer : run(methods + "static String run() {\nStringBuilder answers = new StringBuilder();\n" + due
                + "return answers.toString();\n}\n").split("\n")) {
            String[] both = answer.split(" due ");
            Check.due("README: " + answer, 1, both.length == 2 && both[0].equals(both[1]) ? 1 : 0);
        }
        Check.end();
    }

    private static String run(String members) throws IOException, ReflectiveOperationException {
        Path dir = Files.createTempDirectory("readme");
        Path source = dir.resolve("Shown.java");
        Files.writeString(source, "import java.nio.*;\nimport java.nio.charset.*;\nimport java.util.*;\nclass Shown {\n"
            + members + "}\n");
        int failed = ToolProvider.getSystemJavaCompiler().run(null, null, null, "-proc:none",
            "-cp", System.getProperty("java.class.path"), "-d", dir.toString(), source.toString());
        Check.due("README's Java does not compile", 0, failed);
        try (URLClassLoader loader = new URLClassLoader(new URL[] {dir.toUri().toURL()})) {
            var run = loader.loadClass("Shown").getDeclaredMethod("run");
            run.setAccessible(true);
            return (String) run.invoke(null);
        } finally {
            Files.delete(source);
            Files.delete(dir.resolve("Shown.class"));
            Files.delete(dir);
        }
    }
}
