import java.io.IOException;
import java.lang.reflect.InvocationTargetException;
import java.net.URL;
import java.net.URLClassLoader;
import java.nio.charset.StandardCharsets;
import java.nio.file.Files;
import java.nio.file.Path;
import java.util.Comparator;
import java.util.List;
import java.util.regex.Matcher;
import java.util.regex.Pattern;
import java.util.stream.Stream;
import javax.tools.JavaCompiler;
import javax.tools.ToolProvider;

/** The example of README.md, compiled as it stands there and run: its calls answer what its comments tell. */
public final class ReadmeTests {
    private static final Pattern ANSWERED = Pattern.compile("( +)(x\\.(\\w+)\\([^;]*\\)); *// ([A-Z]+|-?\\d+)(.*)");
    private static final int FEWEST_ANSWERS = 30;
    private static int answers = 0;
    private static int wrong = 0;

    /** The example calls this, in the place of each call whose answer it tells. */
    public static void due(String call, long got, long want) {
        answers++;
        if (got == want) return;
        wrong++;
        System.out.println("README.md: " + call + " answered " + got + ", it tells " + want);
    }

    public static void main(String[] args) throws Exception {
        String readme = Files.readString(Path.of("README.md"), StandardCharsets.UTF_8);
        Matcher block = Pattern.compile("(?s)```java\n(.*?)```").matcher(readme);
        if (!block.find()) fail("README.md has no example");
        runExample(block.group(1));
        namesAll(readme);
        System.out.println(answers + " answers of the example, " + wrong + " wrong");
        if (answers < FEWEST_ANSWERS) fail("the example tells too few answers");
        if (wrong != 0) System.exit(1);
    }

    private static void fail(String why) {
        System.out.println(why);
        System.exit(1);
    }

    /** Each line with an answer becomes a call of due(); all else stays. */
    private static String withAnswers(String example) {
        StringBuilder all = new StringBuilder();
        for (String line : example.split("\n")) {
            Matcher m = ANSWERED.matcher(line);
            if (!m.matches()) all.append(line);
            else {
                String want = Character.isUpperCase(m.group(4).charAt(0)) ? "TurnedStones." + m.group(4) : m.group(4);
                all.append("ReadmeTests.due(\"").append(m.group(2)).append("\", ").append(m.group(2)).append(", ");
                all.append(want).append(");");
            }
            all.append('\n');
        }
        return all.toString();
    }

    private static void runExample(String example) throws Exception {
        JavaCompiler compiler = ToolProvider.getSystemJavaCompiler();
        if (compiler == null) fail("there is no compiler");
        Path out = Files.createTempDirectory("readme");
        try {
            compile(compiler, out, example);
            compile(compiler, out, withAnswers(example));
            try (URLClassLoader loader = new URLClassLoader(new URL[] {out.toUri().toURL()})) {
                loader.loadClass("Example").getMethod("main", String[].class).invoke(null, (Object) new String[0]);
            }
        } catch (InvocationTargetException thrown) {
            thrown.getCause().printStackTrace();
            fail("the example throws");
        } finally {
            remove(out);
        }
    }

    private static void compile(JavaCompiler compiler, Path out, String text) throws IOException {
        Path file = out.resolve("Example.java");
        Files.writeString(file, text);
        String path = System.getProperty("java.class.path");
        if (compiler.run(null, null, null, "-cp", path, "-d", out.toString(), file.toString()) != 0) fail("the example can't be compiled");
    }

    private static void remove(Path folder) throws IOException {
        List<Path> all;
        try (Stream<Path> walk = Files.walk(folder)) {
            all = walk.sorted(Comparator.reverseOrder()).toList();
        }
        for (Path one : all) Files.delete(one);
    }

    /** README.md names every public call, and every test. */
    private static void namesAll(String readme) throws IOException {
        for (var method : TurnedStones.class.getDeclaredMethods()) {
            boolean named = Pattern.compile("`" + method.getName() + "(\\(\\))?`").matcher(readme).find();
            if (java.lang.reflect.Modifier.isPublic(method.getModifiers()) && !named) missing(method.getName());
        }
        try (Stream<Path> tests = Files.list(Path.of("src/test/java"))) {
            for (Path test : tests.toList()) {
                String name = test.getFileName().toString().replace(".java", "");
                if (!readme.contains("`" + name + "`")) missing(name);
            }
        }
    }

    private static void missing(String name) {
        wrong++;
        System.out.println("README.md does not name " + name);
    }
}
