import java.io.ByteArrayOutputStream;
import java.io.IOException;
import java.io.OutputStream;
import java.io.PrintStream;
import java.lang.reflect.Method;
import java.net.URI;
import java.nio.file.Files;
import java.nio.file.Path;
import java.util.ArrayList;
import java.util.HashMap;
import java.util.List;
import java.util.Map;
import java.util.concurrent.ExecutionException;
import java.util.concurrent.ExecutorService;
import java.util.concurrent.Executors;
import java.util.concurrent.Future;
import java.util.concurrent.TimeUnit;
import java.util.concurrent.TimeoutException;
import java.util.regex.Matcher;
import java.util.regex.Pattern;
import javax.tools.FileObject;
import javax.tools.ForwardingJavaFileManager;
import javax.tools.JavaCompiler;
import javax.tools.JavaFileManager;
import javax.tools.JavaFileObject;
import javax.tools.SimpleJavaFileObject;
import javax.tools.ToolProvider;

/**
 * Breaks the class in one place after another and tells which breaks no boundary case notices. It is no part of .ci/run,
 * for it takes minutes; a break that is told either changes nothing that the document asks for, or lacks a case.
 * Arguments: the directory of the tests' classes; then, if wished, the first and the last line to be broken.
 */
public final class Mutants {
    private static final long SECONDS = 20;
    private static final Path SOURCE = Path.of("src/main/java/CoinPairs.java");
    private static final String[][] CHANGES = {
        {"(?<![<>\\-])<(?![<=])", "<="}, {"(?<![<])<=", "<"}, {"(?<![>\\-])>(?![>=])", ">="}, {"(?<![>])>=", ">"},
        {"==", "!="}, {"!=", "=="}, {"&&", "||"}, {"\\|\\|", "&&"}, {" \\+ ", " - "}, {" - ", " + "}, {" \\* ", " + "},
        {"\\+\\+", "--"}, {"\\btrue\\b", "false"}, {"\\bfalse\\b", "true"}, {"\\bMath\\.max\\b", "Math.min"},
        {"\\bMath\\.min\\b", "Math.max"}, {" & ", " | "}, {" \\| ", " & "}, {" \\^= ", " |= "}, {" \\|= ", " = "},
        {" \\+= ", " = "}, {">>>", ">>"}, {"if \\(!", "if ("}, {"\\bNONE\\b", "0"}};
    private static final Pattern NUMBER = Pattern.compile("(?<![\\w.\"'])\\d+(?![\\w\"'L.])");

    private final List<String> lines;
    private final Path tests;
    private final List<Break> breaks = new ArrayList<>();

    private Mutants(Path tests) throws IOException {
        this.tests = tests;
        lines = Files.readAllLines(SOURCE);
    }

    public static void main(String[] args) throws IOException, InterruptedException {
        Mutants m = new Mutants(Path.of(args[0]));
        int from = args.length > 1 ? Integer.parseInt(args[1]) : 1;
        int to = args.length > 2 ? Integer.parseInt(args[2]) : m.lines.size();
        for (int i = from - 1; i < to && i < m.lines.size(); i++) {
            m.breakLine(i);
        }
        m.run();
        System.exit(0);
    }

    private void breakLine(int at) {
        String line = lines.get(at);
        String code = line.trim();
        if (code.isEmpty() || code.startsWith("/") || code.startsWith("*") || code.startsWith("import")) {
            return;
        }
        for (String[] change : CHANGES) {
            Matcher m = Pattern.compile(change[0]).matcher(line);
            while (m.find()) {
                put(at, line.substring(0, m.start()) + change[1] + line.substring(m.end()));
            }
        }
        Matcher m = NUMBER.matcher(line);
        while (m.find()) {
            long n = Long.parseLong(m.group());
            put(at, line.substring(0, m.start()) + (n + 1) + line.substring(m.end()));
            put(at, line.substring(0, m.start()) + (n - 1) + line.substring(m.end()));
        }
        boolean statement = code.endsWith(";") && !code.startsWith("return") && !code.contains(" final ");
        if (statement && !code.matches("(?:private )?[\\w\\[\\]]+ \\w+( = .*)?;")) {
            put(at, "");
        }
        if (code.matches("return .*;") && !code.matches("return (true|false|\\d+);")) {
            put(at, line.replaceFirst("return (.*);", "return ($1) + 1;"));
            put(at, line.replaceFirst("return (.*);", "return !($1);"));
        }
    }

    private void put(int at, String instead) {
        breaks.add(new Break(at, instead));
    }

    private record Break(int at, String instead) {
    }

    private String told(Break b) {
        return (b.at() + 1) + ": " + lines.get(b.at()).trim() + "  =>  " + b.instead().trim();
    }

    private String source(Break b) {
        List<String> all = new ArrayList<>(lines);
        all.set(b.at(), b.instead());
        return String.join("\n", all);
    }

    private void run() throws InterruptedException {
        PrintStream out = System.out;
        System.setOut(new PrintStream(OutputStream.nullOutputStream()));
        ExecutorService workers = Executors.newFixedThreadPool(Math.max(1, Runtime.getRuntime().availableProcessors() - 1));
        ExecutorService runs = Executors.newCachedThreadPool(task -> {
            Thread t = new Thread(task);
            t.setDaemon(true);
            return t;
        });
        List<Future<Boolean>> held = new ArrayList<>();
        for (Break b : breaks) {
            held.add(workers.submit(() -> holds(source(b), runs)));
        }
        int compiled = 0;
        int left = 0;
        for (int i = 0; i < breaks.size(); i++) {
            try {
                Boolean all = held.get(i).get();
                compiled += all == null ? 0 : 1;
                if (all != null && all) {
                    left++;
                    out.println(told(breaks.get(i)));
                }
            } catch (ExecutionException e) {
                out.println(told(breaks.get(i)) + " could not be run: " + e.getCause());
            }
        }
        out.println(compiled + " breaks, " + left + " of them not noticed");
    }

    /** Null: the break is no Java. A run that doesn't end is noticed, too. */
    private Boolean holds(String source, ExecutorService runs) throws InterruptedException {
        Map<String, byte[]> classes = compile(source);
        if (classes == null) {
            return null;
        }
        Future<Boolean> run = runs.submit(() -> {
            Method all = new Loader(classes, tests).loadClass("EdgesTest").getDeclaredMethod("allHold");
            all.setAccessible(true);
            return (Boolean) all.invoke(null);
        });
        try {
            return run.get(SECONDS, TimeUnit.SECONDS);
        } catch (TimeoutException | ExecutionException e) {
            return false;
        }
    }

    private static Map<String, byte[]> compile(String source) {
        JavaCompiler javac = ToolProvider.getSystemJavaCompiler();
        Map<String, ByteArrayOutputStream> written = new HashMap<>();
        JavaFileManager files = new ForwardingJavaFileManager<>(javac.getStandardFileManager(d -> { }, null, null)) {
            @Override
            public JavaFileObject getJavaFileForOutput(Location l, String name, JavaFileObject.Kind kind, FileObject near) {
                return new SimpleJavaFileObject(URI.create("mem:///" + name + ".class"), kind) {
                    @Override
                    public OutputStream openOutputStream() {
                        written.put(name, new ByteArrayOutputStream());
                        return written.get(name);
                    }
                };
            }
        };
        JavaFileObject file = new SimpleJavaFileObject(URI.create("mem:///CoinPairs.java"), JavaFileObject.Kind.SOURCE) {
            @Override
            public CharSequence getCharContent(boolean ignore) {
                return source;
            }
        };
        boolean good = javac.getTask(null, files, d -> { }, List.of("-proc:none"), null, List.of(file)).call();
        Map<String, byte[]> classes = new HashMap<>();
        written.forEach((name, bytes) -> classes.put(name, bytes.toByteArray()));
        return good ? classes : null;
    }

    /** The broken class together with the tests. */
    private static final class Loader extends ClassLoader {
        private final Map<String, byte[]> classes;
        private final Path tests;

        Loader(Map<String, byte[]> classes, Path tests) {
            super(ClassLoader.getPlatformClassLoader());
            this.classes = classes;
            this.tests = tests;
        }

        @Override
        protected Class<?> findClass(String name) throws ClassNotFoundException {
            try {
                byte[] bytes = classes.containsKey(name) ? classes.get(name) : Files.readAllBytes(tests.resolve(name + ".class"));
                return defineClass(name, bytes, 0, bytes.length);
            } catch (IOException e) {
                throw new ClassNotFoundException(name, e);
            }
        }
    }
}
