import java.io.IOException;
import java.lang.reflect.Method;
import java.lang.reflect.Modifier;
import java.net.URL;
import java.net.URLClassLoader;
import java.nio.file.Files;
import java.nio.file.Path;
import java.util.ArrayList;
import java.util.List;
import java.util.TreeSet;
import java.util.regex.Matcher;
import java.util.regex.Pattern;
import java.util.stream.Stream;
import javax.tools.JavaCompiler;
import javax.tools.ToolProvider;

/** What README.md says is so: its example is compiled and run, its names are those that there are. */
public final class ReadmeTest {
    private static final Pattern BLOCK = Pattern.compile("```java\n(.*?)```", Pattern.DOTALL);
    private static final Pattern ANSWER = Pattern.compile("int (\\w+) = tower\\..*; +// (-?\\d+): .*");

    public static void main(String[] args) throws Exception {
        String page = Files.readString(Path.of("README.md"));
        example(page);
        calls(page);
        tests(page);
        command(page);
        Check.end();
    }

    /** Each line of the example that tells an answer is followed by a look at it. */
    private static void example(String page) throws Exception {
        Matcher block = BLOCK.matcher(page);
        Check.that("there is an example", block.find());
        StringBuilder body = new StringBuilder();
        int answers = 0;
        for (String line : block.group(1).split("\n")) {
            body.append(line).append('\n');
            Matcher answer = ANSWER.matcher(line);
            if (answer.matches()) {
                answers++;
                body.append("got.add(new long[] {").append(answer.group(2)).append(", ").append(answer.group(1));
                body.append("});\n");
            }
        }
        Check.that("the example tells answers", answers > 3);
        List<long[]> got = run("import java.util.List;\npublic final class Example {\n"
            + "public static void run(List<long[]> got) {\n" + body + "}\n}\n");
        Check.due("answers of the example", answers, got.size());
        for (int i = 0; i < got.size(); i++) {
            Check.due("answer " + i + " of the example", got.get(i)[0], got.get(i)[1]);
        }
    }

    private static List<long[]> run(String source) throws Exception {
        Path place = Files.createTempDirectory("readme");
        Path file = Files.writeString(place.resolve("Example.java"), source);
        List<long[]> got = new ArrayList<>();
        JavaCompiler compiler = ToolProvider.getSystemJavaCompiler();
        int code = compiler.run(null, null, null, "-cp", System.getProperty("java.class.path"), "-d", place.toString(),
            file.toString());
        Check.due("the example compiles", 0, code);
        try (URLClassLoader loader = new URLClassLoader(new URL[] {place.toUri().toURL()})) {
            if (code == 0) {
                loader.loadClass("Example").getMethod("run", List.class).invoke(null, got);
            }
        }
        Files.deleteIfExists(place.resolve("Example.class"));
        Files.delete(file);
        Files.delete(place);
        return got;
    }

    private static void calls(String page) {
        String use = page.substring(page.indexOf("## How to use it"), page.indexOf("## How to run its tests"));
        for (Method m : TableTower.class.getDeclaredMethods()) {
            boolean named = use.contains("`" + m.getName() + "`");
            Check.that("the page names " + m.getName(), named || !Modifier.isPublic(m.getModifiers()));
        }
    }

    private static void tests(String page) throws IOException {
        String run = page.substring(page.indexOf("## How to run its tests"));
        TreeSet<String> there = new TreeSet<>();
        try (Stream<Path> files = Files.list(Path.of("src/test/java"))) {
            files.forEach(file -> there.add(file.getFileName().toString().replace(".java", "")));
        }
        TreeSet<String> named = new TreeSet<>();
        Matcher name = Pattern.compile("`([A-Z]\\w+)`").matcher(run);
        while (name.find()) {
            named.add(name.group(1));
        }
        Check.that("the page names " + named + ", there are " + there, named.equals(there));
    }

    private static void command(String page) throws IOException {
        Path command = Path.of(".ci/run");
        Check.that("the page names the command", page.contains("```sh\n.ci/run\n```"));
        Check.that("the command can be run", Files.isExecutable(command));
        Check.that("it runs every test", Files.readString(command).contains("src/test/java/*Test.java ../shared/tests/*.java"));
    }
}
