import java.lang.reflect.Method;
import java.lang.reflect.Modifier;
import java.net.URL;
import java.net.URLClassLoader;
import java.nio.file.DirectoryStream;
import java.nio.file.Files;
import java.nio.file.Path;
import java.util.ArrayList;
import java.util.List;
import java.util.regex.Matcher;
import java.util.regex.Pattern;
import javax.tools.ToolProvider;

/** README.md: its example, compiled and run, answers what stands behind each call; it names every call and every test. */
public final class ReadmeTest {
    private static final Pattern CALL = Pattern.compile("(ship\\.\\w+\\(.*\\)); *// (-?\\d+)(:.*)?");
    private static final Due due = new Due();

    private ReadmeTest() {
    }

    public static void main(String[] args) throws Exception {
        String readme = Files.readString(Path.of("README.md"));
        example(readme);
        namesEveryCall(readme);
        namesEveryTest(readme);
        due.end();
    }

    private static void example(String readme) throws Exception {
        int from = readme.indexOf("```java\n") + "```java\n".length();
        StringBuilder body = new StringBuilder();
        List<String> calls = new ArrayList<>();
        List<Long> wants = new ArrayList<>();
        for (String line : readme.substring(from, readme.indexOf("```", from)).split("\n")) {
            Matcher m = CALL.matcher(line);
            if (m.matches()) {
                body.append("got.add((long) ").append(m.group(1)).append(");\n");
                calls.add(m.group(1));
                wants.add(Long.parseLong(m.group(2)));
            } else {
                body.append(line).append('\n');
            }
        }
        List<Long> got = answers(body.toString());
        due.is("calls with an answer", got.size(), wants.size());
        due.holds("the example has some", calls.size() > 20);
        for (int k = 0; k < calls.size(); k++) {
            due.is("the example: " + calls.get(k), got.get(k), wants.get(k));
        }
    }

    private static List<Long> answers(String body) throws Exception {
        Path folder = Files.createTempDirectory("readme");
        Path source = folder.resolve("ReadmeExample.java");
        Files.writeString(source, "public final class ReadmeExample {\n"
            + "public static void fill(java.util.List<Long> got) {\n" + body + "}\n}\n");
        String classes = System.getProperty("java.class.path");
        int exit = ToolProvider.getSystemJavaCompiler().run(null, null, null, "-cp", classes, "-d", folder.toString(), source.toString());
        due.is("the example is compiled", exit, 0);
        List<Long> got = new ArrayList<>();
        try (URLClassLoader loader = new URLClassLoader(new URL[] {folder.toUri().toURL()})) {
            loader.loadClass("ReadmeExample").getMethod("fill", List.class).invoke(null, got);
        }
        Files.delete(folder.resolve("ReadmeExample.class"));
        Files.delete(source);
        Files.delete(folder);
        return got;
    }

    private static void namesEveryCall(String readme) {
        for (Method m : AwakeTurns.class.getDeclaredMethods()) {
            boolean isNamed = Pattern.compile("`" + m.getName() + "\\([^`]*\\)`").matcher(readme).find();
            due.holds("README.md names " + m.getName(), !Modifier.isPublic(m.getModifiers()) || isNamed);
        }
    }

    private static void namesEveryTest(String readme) throws Exception {
        try (DirectoryStream<Path> tests = Files.newDirectoryStream(Path.of("src/test/java"), "*Test.java")) {
            for (Path test : tests) {
                String name = test.getFileName().toString().replace(".java", "");
                due.holds("README.md names " + name, readme.contains("- `" + name + "`:"));
            }
        }
    }
}
