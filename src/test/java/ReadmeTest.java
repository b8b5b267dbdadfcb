import java.io.IOException;
import java.net.URL;
import java.net.URLClassLoader;
import java.nio.charset.StandardCharsets;
import java.nio.file.Files;
import java.nio.file.Path;
import java.util.ArrayList;
import java.util.List;
import java.util.regex.Matcher;
import java.util.regex.Pattern;
import javax.tools.ToolProvider;

/** The run of calls in README.md, compiled as it stands there: each answers the number that stands behind it. */
public final class ReadmeTest {
    private static final Pattern BLOCK = Pattern.compile("(?s)```java\n(.*?)```");
    private static final Pattern CALL = Pattern.compile("(x\\.\\w+\\([^;\n]*\\)); +// (-?\\d+)\\b");

    public static void main(String[] args) throws Exception {
        String readme = Files.readString(Path.of("README.md"), StandardCharsets.UTF_8);
        Matcher block = BLOCK.matcher(readme);
        Due.due("README.md has a run of calls", block.find() ? 1 : 0, 1);
        List<String> calls = callsOf(block.group(1));
        List<long[]> answers = answersOf(block.group(1));
        Due.due("README.md: answers", answers.size() >= calls.size() && calls.size() >= 10 ? 1 : 0, 1);
        for (long[] answer : answers) {
            Due.due("README.md: " + calls.get((int) answer[0]), answer[1], answer[2]);
        }
        Due.due("README.md says how to run the tests", readme.contains("    .ci/run\n") ? 1 : 0, 1);
        everyTestIsNamed(readme);
        Due.end();
    }

    private static List<String> callsOf(String block) {
        List<String> calls = new ArrayList<>();
        for (String line : block.split("\n")) {
            Matcher call = CALL.matcher(line);
            if (call.find()) {
                calls.add(call.group(1));
            } else {
                Due.due("README.md: a call without its answer: " + line, line.contains("x.") ? 1 : 0, 0);
            }
        }
        return calls;
    }

    /** Of each call: its place among the calls, what it answered, what README.md says. */
    private static List<long[]> answersOf(String block) throws Exception {
        int[] place = {0};
        String told = CALL.matcher(block).replaceAll(call ->
            "told.add(new long[] {" + place[0]++ + ", " + call.group(1) + ", " + call.group(2) + "}); //");
        String source = "public class ReadmeRun { public static void run(java.util.List<long[]> told) {\n" + told + "}}\n";
        Path folder = Files.createTempDirectory("readme");
        try {
            List<long[]> answers = new ArrayList<>();
            compile(folder, source);
            try (URLClassLoader loader = new URLClassLoader(new URL[] {folder.toUri().toURL()})) {
                loader.loadClass("ReadmeRun").getMethod("run", List.class).invoke(null, answers);
            }
            return answers;
        } finally {
            Files.deleteIfExists(folder.resolve("ReadmeRun.class"));
            Files.deleteIfExists(folder.resolve("ReadmeRun.java"));
            Files.deleteIfExists(folder);
        }
    }

    private static void compile(Path folder, String source) throws IOException {
        Path file = folder.resolve("ReadmeRun.java");
        Files.writeString(file, source);
        int code = ToolProvider.getSystemJavaCompiler().run(null, null, null,
            "-cp", System.getProperty("java.class.path"), "-d", folder.toString(), file.toString());
        Due.due("README.md: its calls compile", code, 0);
    }

    private static void everyTestIsNamed(String readme) throws IOException {
        try (var files = Files.list(Path.of("src/test/java"))) {
            files.map(file -> file.getFileName().toString()).filter(name -> name.endsWith("Test.java")).forEach(name ->
                Due.due("README.md names " + name, readme.contains(name.replace(".java", "")) ? 1 : 0, 1));
        }
    }
}
