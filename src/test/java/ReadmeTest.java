import java.io.IOException;
import java.net.URL;
import java.net.URLClassLoader;
import java.nio.file.Files;
import java.nio.file.Path;
import java.util.ArrayList;
import java.util.List;
import java.util.regex.Matcher;
import java.util.regex.Pattern;
import javax.tools.ToolProvider;

/** The example of README.md: each call that has a comment answers, or throws, what stands there before the colon. */
final class ReadmeTest extends Checks {
    private static final Pattern CALL = Pattern.compile("(levy\\..*);\\s*// (-?\\w+): .*");

    private ReadmeTest() {
    }

    public static void main(String[] args) throws IOException, ReflectiveOperationException {
        String readme = Files.readString(Path.of("README.md"));
        String example = readme.split("```java\n", 2)[1].split("```", 2)[0];
        List<String> calls = new ArrayList<>();
        List<String> due = new ArrayList<>();
        String source = sourceOf(example, calls, due);
        String[] answers = answersOf(source);
        dueTrue("the example has calls", answers.length > 20);
        for (int i = 0; i < answers.length; i++) {
            tell("README.md: " + calls.get(i), answers[i], due.get(i));
        }
        finish("ReadmeTest", args);
    }

    private static String sourceOf(String example, List<String> calls, List<String> due) {
        StringBuilder body = new StringBuilder();
        for (String line : example.split("\n")) {
            Matcher call = CALL.matcher(line);
            if (call.matches()) {
                body.append("try { answers[").append(calls.size()).append("] = String.valueOf(").append(call.group(1))
                        .append("); } catch (RuntimeException e) { answers[").append(calls.size())
                        .append("] = e.getClass().getSimpleName(); }\n");
                calls.add(call.group(1));
                due.add(call.group(2));
            } else {
                body.append(line).append('\n');
            }
        }
        return "public final class ReadmeExample { public static String[] answers() {\nString[] answers = new String["
                + calls.size() + "];\n" + body + "return answers; } }\n";
    }

    private static String[] answersOf(String source) throws IOException, ReflectiveOperationException {
        Path folder = Files.createTempDirectory("readme");
        Path file = folder.resolve("ReadmeExample.java");
        Files.writeString(file, source);
        int result = ToolProvider.getSystemJavaCompiler().run(null, null, null,
                "-cp", System.getProperty("java.class.path"), "-d", folder.toString(), file.toString());
        due("the example compiles", result, 0);
        try (URLClassLoader loader = new URLClassLoader(new URL[] {folder.toUri().toURL()})) {
            return (String[]) loader.loadClass("ReadmeExample").getMethod("answers").invoke(null);
        } finally {
            Files.deleteIfExists(folder.resolve("ReadmeExample.class"));
            Files.delete(file);
            Files.delete(folder);
        }
    }
}
