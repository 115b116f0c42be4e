import java.io.IOException;
import java.net.URL;
import java.net.URLClassLoader;
import java.nio.file.Files;
import java.nio.file.Path;
import java.util.ArrayList;
import java.util.List;
import java.util.function.Supplier;
import java.util.regex.Matcher;
import java.util.regex.Pattern;
import java.util.stream.Stream;
import javax.tools.ToolProvider;

/** That README.md holds: its example answers what stands behind each call, and it names the tests that there are. */
public final class ReadmeTest {
    private static final Check CHECK = new Check("ReadmeTest");
    private static final String EXAMPLE = "ReadmeExample";
    private static final Pattern BLOCK = Pattern.compile("```java\n(.*?)```", Pattern.DOTALL);
    private static final Pattern ANSWERED =
            Pattern.compile("(int \\w+ = )?(war\\..*\\));\\s+// (-?\\d+|true|false)\\b.*");
    private static final Pattern TEST = Pattern.compile("`(\\w+Test)`");

    public static void main(String[] args) throws Exception {
        String readme = Files.readString(Path.of("README.md"));
        example(readme);
        tests(readme);
        check("the script that it names", Files.isExecutable(Path.of(".ci/run")) && readme.contains(".ci/run"));
        CHECK.end();
    }

    private static void check(String what, boolean holds) {
        CHECK.due(what, holds, true);
    }

    private static void example(String readme) throws Exception {
        Matcher block = BLOCK.matcher(readme);
        check("an example", block.find());
        List<String> calls = new ArrayList<>();
        List<String> due = new ArrayList<>();
        StringBuilder body = new StringBuilder();
        for (String line : block.group(1).split("\n")) {
            Matcher answered = ANSWERED.matcher(line);
            if (!answered.matches()) {
                body.append(line).append('\n');
                continue;
            }
            calls.add(answered.group(2));
            due.add(answered.group(3));
            String name = answered.group(1) == null ? "var answer" + due.size() + " = " : answered.group(1);
            body.append(name).append(answered.group(2)).append(";\n");
            body.append("answers.add(").append(name, name.indexOf(' ') + 1, name.indexOf(" =")).append(");\n");
        }
        List<Object> answers = run(body.toString());
        check("answers in the example", answers.size() > 0 && answers.size() == due.size());
        for (int i = 0; i < due.size(); i++) {
            check(calls.get(i) + " = " + due.get(i) + ", not " + answers.get(i),
                    answers.get(i).toString().equals(due.get(i)));
        }
    }

    private static List<Object> run(String body) throws Exception {
        Path dir = Files.createTempDirectory("readme");
        try {
            Path source = dir.resolve(EXAMPLE + ".java");
            Files.writeString(source, "import java.util.*;\n"
                    + "public final class " + EXAMPLE + " implements java.util.function.Supplier<List<Object>> {\n"
                    + "public List<Object> get() {\nList<Object> answers = new ArrayList<>();\n"
                    + body + "return answers;\n}\n}\n");
            int wrong = ToolProvider.getSystemJavaCompiler().run(null, null, null,
                    "-cp", System.getProperty("java.class.path"), "-d", dir.toString(), source.toString());
            check("the example compiles", wrong == 0);
            return wrong == 0 ? load(dir) : List.of();
        } finally {
            delete(dir);
        }
    }

    @SuppressWarnings("unchecked")
    private static List<Object> load(Path dir) throws Exception {
        try (URLClassLoader loader = new URLClassLoader(new URL[] {dir.toUri().toURL()})) {
            Class<?> type = loader.loadClass(EXAMPLE);
            return ((Supplier<List<Object>>) type.getConstructor().newInstance()).get();
        }
    }

    private static void delete(Path dir) throws IOException {
        try (Stream<Path> files = Files.list(dir)) {
            for (Path file : files.toList()) {
                Files.delete(file);
            }
        }
        Files.delete(dir);
    }

    private static void tests(String readme) throws IOException {
        List<String> named = new ArrayList<>();
        Matcher test = TEST.matcher(readme);
        while (test.find()) {
            named.add(test.group(1) + ".java");
        }
        List<String> there = new ArrayList<>();
        try (Stream<Path> files = Files.list(Path.of("src/test/java"))) {
            files.map(file -> file.getFileName().toString()).filter(name -> name.endsWith("Test.java"))
                    .forEach(there::add);
        }
        for (String name : there) {
            check(name + " is named", named.contains(name));
        }
        for (String name : named) {
            check(name + " is there", there.contains(name));
        }
    }
}
