import java.lang.reflect.InvocationTargetException;
import java.lang.reflect.Method;
import java.lang.reflect.Modifier;
import java.util.ArrayList;
import java.util.Comparator;
import java.util.List;
import java.util.Random;

/** No call ever throws, whatever its arguments; refused calls and questions change nothing; objects share nothing. */
public final class AnyArgumentsTest {
    private static final List<String> CHANGING = List.of("feed", "valley", "carry", "quarrel", "hour", "undo", "perform",
        "year", "numbers", "write", "lists", "image", "restore");

    public static void main(String[] args) throws IllegalAccessException {
        List<Method> calls = new ArrayList<>();
        for (Method m : CoinPairs.class.getDeclaredMethods()) {
            if (Modifier.isPublic(m.getModifiers())) {
                calls.add(m);
            }
        }
        calls.sort(Comparator.comparing(Method::getName));
        Due due = new Due("AnyArgumentsTest");
        due.is("methods of the face", calls.size(), 47);
        for (int seed = 0; seed < 300; seed++) {
            Random r = new Random(seed * 0x9E3779B97F4A7C15L);
            CoinPairs x = new CoinPairs();
            if (seed % 10 > 0) {
                Due.valley(x, Naive.random(r).text);
            }
            for (int i = 0; i < 400; i++) {
                one(due, x, calls.get(r.nextInt(calls.size())), r);
            }
        }
        for (int seed = 0; seed < 40; seed++) {
            apart(due, calls, seed);
        }
        due.end();
    }

    /** The same calls answer the same, also if another object is used between them. */
    private static void apart(Due due, List<Method> calls, int seed) throws IllegalAccessException {
        CoinPairs alone = new CoinPairs();
        CoinPairs beside = new CoinPairs();
        CoinPairs other = new CoinPairs();
        Random r = new Random(seed);
        Random others = new Random(-1 - seed);
        for (int i = 0; i < 250; i++) {
            if (i % 60 == 0) {
                String text = Naive.random(r).text;
                due.is("valley", Due.valley(beside, text), Due.valley(alone, text));
                Due.valley(other, Naive.random(others).text);
            }
            Method call = calls.get(r.nextInt(calls.size()));
            Object[] values = values(call, r);
            long answer = answer(due, alone, call, values);
            Method call2 = calls.get(others.nextInt(calls.size()));
            answer(due, other, call2, values(call2, others));
            due.is(call.getName() + java.util.Arrays.toString(values) + " beside another object",
                answer(due, beside, call, values), answer);
        }
    }

    private static void one(Due due, CoinPairs x, Method call, Random r) throws IllegalAccessException {
        Object[] values = values(call, r);
        if (call.getName().equals("feed") && r.nextInt(3) == 0) {
            Due.feed(x, x.count(9) < 500 ? Naive.random(r).text : "");
            x.valley(x.count(9));
        }
        String before = all(x);
        long answer = answer(due, x, call, values);
        boolean refused = answer < -1 && !call.getName().equals("write");
        boolean fault = call.getName().equals("valley") && answer < -30;
        if (!fault && (refused || !CHANGING.contains(call.getName()))) {
            due.holds(call.getName() + java.util.Arrays.toString(values) + " changed nothing", before.equals(all(x)));
        }
    }

    private static Object[] values(Method call, Random r) {
        Class<?>[] types = call.getParameterTypes();
        Object[] values = new Object[types.length];
        for (int i = 0; i < types.length; i++) {
            long v = any(r);
            if (types[i] == long.class) {
                values[i] = v;
            } else {
                values[i] = (int) v;
            }
        }
        return values;
    }

    private static long answer(Due due, CoinPairs x, Method call, Object[] values) throws IllegalAccessException {
        try {
            return ((Number) call.invoke(x, values)).longValue();
        } catch (InvocationTargetException e) {
            due.is(call.getName() + java.util.Arrays.toString(values) + " threw " + e.getCause(), 1, 0);
            return 0;
        }
    }

    private static long any(Random r) {
        switch (r.nextInt(12)) {
            case 0:
                return r.nextLong();
            case 1:
                return r.nextInt();
            case 2:
                return Integer.MIN_VALUE;
            case 3:
                return Integer.MAX_VALUE;
            case 4:
                return -1;
            case 5:
                return r.nextInt(100);
            default:
                return r.nextInt(9);
        }
    }

    private static String all(CoinPairs x) {
        StringBuilder all = new StringBuilder();
        for (int i = 0; i < 11; i++) {
            all.append(x.count(i)).append(' ');
        }
        for (int i = 0; i < 9; i++) {
            for (int what = 0; what < 4; what++) {
                all.append(x.person(i, what)).append(x.coin(i, what)).append(x.road(i, what)).append(' ');
            }
        }
        for (int tray = 0; tray < 4; tray++) {
            all.append(x.judge(tray, 0)).append(x.judge(tray, 3)).append(x.hours(tray)).append(' ');
        }
        return all.append(x.fault(0)).append(x.fault(1)).toString();
    }
}
