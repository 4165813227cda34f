import java.io.File;
import java.io.IOException;
import java.lang.reflect.Method;
import java.lang.reflect.Modifier;
import java.net.URL;
import java.net.URLClassLoader;
import java.nio.file.Files;
import java.nio.file.Path;
import java.util.Comparator;
import java.util.regex.Matcher;
import java.util.regex.Pattern;
import java.util.stream.Stream;
import javax.tools.ToolProvider;

/** README.md: its example answers as it says there, and it names each call and each test. */
public final class ReadmeTest {
    private static final Due DUE = new Due("ReadmeTest");

    public static void main(String[] args) throws IOException, ReflectiveOperationException {
        String page = Files.readString(Path.of("README.md"));
        example(page);
        calls(page);
        tests(page);
        DUE.end();
    }

    /** Called by the example, each of whose answers is asked for by such a call. */
    public static void is(String call, long got, long due) {
        DUE.is(call, got, due);
    }

    private static void example(String page) throws IOException, ReflectiveOperationException {
        Matcher block = Pattern.compile("(?s)```java\n(.*?)```").matcher(page);
        DUE.holds("there is an example", block.find());
        String code = block.group(1);
        Matcher told = Pattern.compile("(?m)^ +((?:x\\.|tell\\().*\\)); +// (-?\\d+): .*$").matcher(code);
        StringBuilder asked = new StringBuilder();
        int many = 0;
        while (told.find()) {
            String call = told.group(1);
            String line = "ReadmeTest.is(\"" + call.replace("\"", "'") + "\", " + call + ", " + told.group(2) + ");";
            told.appendReplacement(asked, Matcher.quoteReplacement(line));
            many++;
        }
        told.appendTail(asked);
        DUE.is("lines with an answer", many, code.lines().filter(l -> l.contains("; ") && l.contains("// ")).count());
        DUE.holds("some answers, " + many, many > 20);
        run(asked.toString());
    }

    private static void run(String code) throws IOException, ReflectiveOperationException {
        Path dir = Files.createTempDirectory("readme");
        try {
            Path source = Files.writeString(dir.resolve("Example.java"), code);
            int failed = ToolProvider.getSystemJavaCompiler().run(null, null, null, "-cp",
                System.getProperty("java.class.path"), "-d", dir.toString(), source.toString());
            DUE.is("the example compiles", failed, 0);
            if (failed == 0) {
                try (URLClassLoader loader = new URLClassLoader(new URL[] {dir.toUri().toURL()})) {
                    loader.loadClass("Example").getMethod("main", String[].class).invoke(null, (Object) new String[0]);
                }
            }
        } finally {
            try (Stream<Path> all = Files.walk(dir)) {
                all.sorted(Comparator.reverseOrder()).map(Path::toFile).forEach(File::delete);
            }
        }
    }

    private static void calls(String page) {
        for (Method m : CoinPairs.class.getDeclaredMethods()) {
            if (Modifier.isPublic(m.getModifiers())) {
                DUE.holds(m.getName() + " is named", page.contains("`" + m.getName() + "`"));
            }
        }
    }

    private static void tests(String page) {
        DUE.holds("how to run the tests", page.contains("    .ci/run\n"));
        for (String file : new File("src/test/java").list()) {
            String name = file.replace(".java", "");
            DUE.holds(name + " is named", !name.matches(".*Test|EdgesOf.*") || page.contains("`" + name + "`"));
        }
    }
}
