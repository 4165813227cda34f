import java.io.IOException;
import java.io.InputStream;
import java.lang.reflect.Array;
import java.lang.reflect.Field;
import java.lang.reflect.Modifier;
import java.util.ArrayList;
import java.util.Collections;
import java.util.HashMap;
import java.util.IdentityHashMap;
import java.util.LinkedHashMap;
import java.util.List;
import java.util.Map;
import java.util.Set;
import java.util.TreeSet;

/** What of LANGUAGE.md can be seen from the compiled class: what is called, how deep, what is made, divided, thrown. */
public final class CompiledTest {
    private static final Due DUE = new Due("CompiledTest");
    private static final int MOST_CALLS = 512;
    private static final int DEEPEST = 8;

    /** Of the library, what the class needs of that which rule 4 leaves. */
    private static final Set<String> LIBRARY = Set.of("java/lang/Object.<init>", "java/lang/String.length",
        "java/lang/String.charAt", "java/lang/String.indexOf", "java/lang/Math.min", "java/lang/Math.max",
        "java/lang/Math.floorMod", "java/lang/Integer.bitCount", "java/lang/System.arraycopy", "java/util/Arrays.fill");

    private static final Map<String, Set<String>> CALLS = new LinkedHashMap<>();
    private static final Map<String, Integer> DEPTHS = new HashMap<>();

    public static void main(String[] args) throws IOException, IllegalAccessException {
        List<Class<?>> all = new ArrayList<>(List.of(CoinPairs.class.getDeclaredClasses()));
        all.add(CoinPairs.class);
        for (Class<?> c : all) {
            try (InputStream in = c.getResourceAsStream("/" + c.getName() + ".class")) {
                ClassFile file = new ClassFile(in);
                for (ClassFile.Method m : file.methods) {
                    look(file.name + "." + m.name(), m);
                }
            }
        }
        DUE.holds("methods were found: " + CALLS.size(), CALLS.size() > 150);
        depths();
        room();
        DUE.end();
    }

    private static void look(String method, ClassFile.Method m) {
        Set<String> called = new TreeSet<>();
        CALLS.put(method, called);
        DUE.holds(method + " catches nothing (rule 6)", !m.handlers());
        ClassFile.Instruction before = null;
        for (ClassFile.Instruction i : m.instructions()) {
            int op = i.code();
            DUE.holds(method + " throws nothing (rule 6)", op != 0xbf);
            DUE.holds(method + " locks nothing (rule 6)", op != 0xc2);
            DUE.holds(method + " has no lambda, no joining by + (rules 2, 10)", op != 0xba);
            DUE.holds(method + " has no cast of a reference (rule 6)", op != 0xc0);
            boolean makes = op >= 0xbb && op <= 0xbd || op == 0xc5;
            DUE.holds(method + " makes nothing but in a constructor (rule 12)", !makes || m.name().contains("<"));
            boolean divides = op == 0x6c || op == 0x6d || op == 0x70 || op == 0x71;
            DUE.holds(method + " divides by constants alone (rule 7)", !divides || before != null && before.value() != 0);
            if (op >= ClassFile.INVOKE_VIRTUAL && op <= ClassFile.INVOKE_INTERFACE) {
                boolean own = i.named().startsWith("CoinPairs");
                DUE.holds(method + " calls " + i.named() + " (rule 4)", own || LIBRARY.contains(i.named()));
                if (own) {
                    called.add(i.named());
                }
            }
            before = i;
        }
    }

    /** Calls that are no recursion: of methods that call one another in a ring only one counts. */
    private static void depths() {
        for (String method : CALLS.keySet()) {
            int deep = depth(method);
            DUE.holds(method + " goes " + deep + " deep (rule 11)", deep <= DEEPEST);
        }
        Set<String> rings = new TreeSet<>();
        for (String method : CALLS.keySet()) {
            if (behind(method).contains(method)) {
                rings.add(method.substring(method.indexOf('.') + 1));
            }
        }
        DUE.holds("recursion is in the laws' grammar alone (rule 8): " + rings, rings.equals(Set.of("readTruth", "readBoth",
            "readUnit", "readComparison", "readSum", "readTerm", "readAtom", "readChoice")));
    }

    private static int depth(String method) {
        Integer known = DEPTHS.get(method);
        if (known != null) {
            return known;
        }
        Set<String> ring = behind(method);
        ring.removeIf(other -> !behind(other).contains(method));
        ring.add(method);
        int deepest = 0;
        for (String one : ring) {
            for (String called : CALLS.getOrDefault(one, Set.of())) {
                deepest = ring.contains(called) ? deepest : Math.max(deepest, depth(called));
            }
        }
        DEPTHS.put(method, deepest + 1);
        return deepest + 1;
    }

    /** All that it calls, and what these call. */
    private static Set<String> behind(String method) {
        Set<String> found = new TreeSet<>();
        List<String> todo = new ArrayList<>(CALLS.getOrDefault(method, Set.of()));
        while (!todo.isEmpty()) {
            String one = todo.remove(todo.size() - 1);
            if (found.add(one)) {
                todo.addAll(CALLS.getOrDefault(one, Set.of()));
            }
        }
        return found;
    }

    /** Calls make nothing, so a run needs most room if each of its calls makes a new object. */
    private static void room() throws IllegalAccessException {
        Set<Object> seen = Collections.newSetFromMap(new IdentityHashMap<>());
        long elements = count(new CoinPairs(), seen);
        DUE.holds(MOST_CALLS + " times " + seen.size() + " objects and arrays", MOST_CALLS * seen.size() <= 600_000);
        DUE.holds(MOST_CALLS + " times " + elements + " fields and elements", MOST_CALLS * elements <= 7_300_000);
    }

    private static long count(Object one, Set<Object> seen) throws IllegalAccessException {
        if (one == null || !seen.add(one)) {
            return 0;
        }
        long sum = 0;
        if (one.getClass().isArray()) {
            sum += Array.getLength(one);
            for (int i = 0; i < Array.getLength(one) && !one.getClass().getComponentType().isPrimitive(); i++) {
                sum += count(Array.get(one, i), seen);
            }
            return sum;
        }
        for (Field f : one.getClass().getDeclaredFields()) {
            if (!Modifier.isStatic(f.getModifiers())) {
                sum++;
                f.setAccessible(true);
                sum += f.getType().isPrimitive() ? 0 : count(f.get(one), seen);
            }
        }
        return sum;
    }
}
