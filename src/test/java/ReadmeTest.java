import java.io.IOException;
import java.net.URL;
import java.net.URLClassLoader;
import java.nio.file.Files;
import java.nio.file.Path;
import java.util.ArrayList;
import java.util.List;
import java.util.regex.Matcher;
import java.util.regex.Pattern;
import javax.tools.ToolProvider;

/** The example of README.md compiles, and each of its calls answers what stands behind it. */
public final class ReadmeTest {
    private static final Pattern BLOCK = Pattern.compile("(?s)```java\n(.*?)```");
    private static final Pattern ANSWERED = Pattern.compile("(x\\..*\\)); +// (-?\\d+|throws \\w+)\\b.*");

    public static void main(String[] args) throws IOException, ReflectiveOperationException {
        Matcher block = BLOCK.matcher(Files.readString(Path.of("README.md")));
        List<String> blocks = new ArrayList<>();
        while (block.find()) {
            blocks.add(block.group(1));
        }
        Probe.compare("README.md: pieces of Java", 2, blocks.size());
        List<String> calls = new ArrayList<>();
        List<String> wanted = new ArrayList<>();
        StringBuilder body = new StringBuilder();
        for (String line : blocks.get(1).split("\n")) {
            Matcher answered = ANSWERED.matcher(line);
            if (answered.matches()) {
                calls.add(answered.group(1));
                wanted.add(answered.group(2));
                body.append("got.add(answerOf(() -> ").append(answered.group(1)).append("));\n");
            } else {
                body.append(line).append('\n');
            }
        }
        List<String> got = run(sourceOf(blocks.get(0), body.toString()));
        Probe.compare("README.md: answers that are told", true, wanted.size() > 10);
        Probe.compare("README.md: answers", wanted.size(), got.size());
        for (int i = 0; i < Math.min(wanted.size(), got.size()); i++) {
            Probe.compare("README.md: " + calls.get(i), wanted.get(i), got.get(i));
        }
        Probe.end();
    }

    private static String sourceOf(String method, String body) {
        return "import java.util.*;\npublic final class Example {\n" + method
                + "static String answerOf(java.util.function.Supplier<Object> call) {\n"
                + "try { return String.valueOf(call.get()); }\n"
                + "catch (RuntimeException e) { return \"throws \" + e.getClass().getSimpleName(); } }\n"
                + "public static List<String> run() {\nList<String> got = new ArrayList<>();\n" + body
                + "return got;\n}\n}\n";
    }

    private static List<String> run(String source) throws IOException, ReflectiveOperationException {
        Path folder = Files.createTempDirectory("readme");
        Path file = folder.resolve("Example.java");
        Path made = folder.resolve("Example.class");
        try {
            Files.writeString(file, source);
            int failed = ToolProvider.getSystemJavaCompiler().run(null, null, null, "-classpath",
                    System.getProperty("java.class.path"), "-d", folder.toString(), file.toString());
            Probe.compare("README.md: the example's compiler", 0, failed);
            return failed == 0 ? answersOf(folder) : List.of();
        } finally {
            Files.deleteIfExists(made);
            Files.deleteIfExists(file);
            Files.deleteIfExists(folder);
        }
    }

    private static List<String> answersOf(Path folder) throws IOException, ReflectiveOperationException {
        try (URLClassLoader loader = new URLClassLoader(new URL[] {folder.toUri().toURL()})) {
            List<String> answers = new ArrayList<>();
            for (Object one : (List<?>) loader.loadClass("Example").getMethod("run").invoke(null)) {
                answers.add(String.valueOf(one));
            }
            return answers;
        }
    }
}
