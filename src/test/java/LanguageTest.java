import java.io.IOException;
import java.lang.reflect.Constructor;
import java.lang.reflect.Field;
import java.lang.reflect.Method;
import java.lang.reflect.Modifier;
import java.nio.file.Files;
import java.nio.file.Path;
import java.util.Set;
import java.util.TreeSet;
import java.util.regex.Matcher;
import java.util.regex.Pattern;
import java.util.stream.Collectors;
import java.util.stream.Stream;

/** What of LANGUAGE.md can be seen from the text and the members alone. */
public final class LanguageTest {
    private static final Due DUE = new Due("LanguageTest");

    public static void main(String[] args) throws IOException {
        String source = Files.readString(Path.of("src/main/java/CoinPairs.java"));
        String code = source.replaceAll("(?s)/\\*.*?\\*/", "").replaceAll("//.*", "").replaceAll("\"[^\"]*\"", "\"\"");
        words(code);
        face();
        faceAsTold(Files.readString(Path.of("../shared/DOC.md")));
        nested();
        lengths(code);
        DUE.end();
    }

    private static void words(String code) {
        String[] none = {"\\bthrow\\b", "\\bthrows\\b", "\\btry\\b", "\\bcatch\\b", "\\bsynchronized\\b", "\\bassert\\b", "->",
            "::", "\\bpackage\\b", "\\bSystem\\.(?!arraycopy)", "Exact\\(", "\\bdouble\\b", "\\bfloat\\b", "@", "\\bnull\\b",
            "\\bObject\\b", "\\bString\\.(?!\\w)", "import (?!java\\.util\\.Arrays;)"};
        for (String word : none) {
            DUE.holds("no " + word, !Pattern.compile(word).matcher(code).find());
        }
        DUE.holds("signs 1 to 127 alone", code.chars().allMatch(c -> c >= 1 && c <= 127));
    }

    private static void face() {
        DUE.holds("public and final", Modifier.isPublic(CoinPairs.class.getModifiers())
            && Modifier.isFinal(CoinPairs.class.getModifiers()));
        Set<String> open = new TreeSet<>();
        for (Method m : CoinPairs.class.getDeclaredMethods()) {
            boolean isPublic = Modifier.isPublic(m.getModifiers());
            DUE.holds(m.getName() + " is public or private", isPublic || Modifier.isPrivate(m.getModifiers()));
            if (isPublic) {
                DUE.holds(m.getName() + " is no static one", !Modifier.isStatic(m.getModifiers()));
                open.add(m.getName());
            }
        }
        for (Method m : CoinPairs.class.getDeclaredMethods()) {
            DUE.holds(m.getName() + " is private by another name",
                Modifier.isPublic(m.getModifiers()) || !open.contains(m.getName()));
        }
        for (Field f : CoinPairs.class.getDeclaredFields()) {
            DUE.holds(f.getName() + " is private", f.getName().equals("NONE") || Modifier.isPrivate(f.getModifiers()));
        }
        Constructor<?>[] made = CoinPairs.class.getDeclaredConstructors();
        DUE.is("constructors", made.length, 1);
        DUE.holds("a public one", Modifier.isPublic(made[0].getModifiers()));
    }

    /** The members that can be seen are those that the document's part 'The public face' tells, of the same types. */
    private static void faceAsTold(String document) {
        int from = document.indexOf("\n## The public face\n");
        String told = document.substring(from, document.indexOf("\n## Terms\n"));
        Set<String> due = new TreeSet<>();
        Matcher m = Pattern.compile("public (?:static final )?(.*?);").matcher(told);
        while (m.find()) {
            due.add(m.group(1).replaceAll("(\\w+) \\w+(?=[,)])", "$1"));
        }
        Set<String> seen = new TreeSet<>();
        for (Constructor<?> c : CoinPairs.class.getConstructors()) {
            seen.add(c.getName() + types(c.getParameterTypes()));
        }
        for (Method method : CoinPairs.class.getDeclaredMethods()) {
            if (Modifier.isPublic(method.getModifiers())) {
                seen.add(method.getReturnType() + " " + method.getName() + types(method.getParameterTypes()));
            }
        }
        for (Field f : CoinPairs.class.getFields()) {
            seen.add(f.getType() + " " + f.getName() + " = " + CoinPairs.NONE);
        }
        DUE.is("members that are told", due.size(), 49);
        for (String one : due) {
            DUE.holds(one + " is there", seen.contains(one));
        }
        for (String one : seen) {
            DUE.holds(one + " is told", due.contains(one));
        }
    }

    private static String types(Class<?>[] all) {
        return Stream.of(all).map(Class::getName).collect(Collectors.joining(", ", "(", ")"));
    }

    private static void nested() {
        Class<?>[] inside = CoinPairs.class.getDeclaredClasses();
        DUE.holds("some twelve classes", inside.length + 1 <= 12);
        for (Class<?> c : inside) {
            DUE.holds(c.getName() + " is static", Modifier.isStatic(c.getModifiers()));
            int fields = 0;
            for (Field f : c.getDeclaredFields()) {
                fields += Modifier.isStatic(f.getModifiers()) ? 0 : 1;
                DUE.holds(f.getName() + ": static is final",
                    !Modifier.isStatic(f.getModifiers()) || Modifier.isFinal(f.getModifiers()));
            }
            DUE.holds(c.getName() + " has some twenty fields", fields <= 20);
            for (Method m : c.getDeclaredMethods()) {
                DUE.holds(m.getName() + " isn't named as a call", Stream.of(CoinPairs.class.getMethods())
                    .noneMatch(call -> call.getName().equals(m.getName())));
                DUE.holds(m.getName() + " has seven parameters at most", m.getParameterCount() <= 7);
            }
        }
    }

    private static void lengths(String code) {
        Matcher m = Pattern.compile("\n( {4}| {8})(?:[\\w\\[\\]]+ )+(\\w+)\\([^;{}]*\\) \\{\n(.*?)\n\\1\\}", Pattern.DOTALL)
            .matcher(code);
        int methods = 0;
        while (m.find()) {
            methods++;
            DUE.holds(m.group(2) + " is short", m.group(3).split("\n").length <= 60);
        }
        DUE.holds("methods were found, " + methods, methods > 120);
    }
}
