import java.util.ArrayList;
import java.util.HashMap;
import java.util.LinkedHashSet;
import java.util.List;
import java.util.Map;
import java.util.Random;
import java.util.Set;

/** Promises 3 and 4: random texts with faults, judged by all ways the grammar can go on at once. */
public final class ReaderTest {
    private static final Map<String, String[]> GRAMMAR = new HashMap<>();

    static {
        GRAMMAR.put("TEXT", new String[] {"valley places N hour N ; LINES"});
        GRAMMAR.put("LINES", new String[] {"", "LINE ; LINES"});
        GRAMMAR.put("LINE", new String[] {"road N N long N", "person at N strong N", "quarrel N N",
            "coin at N weight N worth N", "may : TRUTH.m", "wears : SUM.w"});
        for (String law : new String[] {"m", "w"}) {
            put("SUM", law, "TERM MORESUM");
            put("MORESUM", law, "", "+ TERM MORESUM", "- TERM MORESUM");
            put("TERM", law, "ATOM MORETERM");
            put("MORETERM", law, "", "* ATOM MORETERM");
            put("ATOM", law, "N", "( SUM )", "if TRUTH then SUM else SUM end", "strong", "weight", "far", "long", "hour",
                law.equals("w") ? "lesser" : "N");
            put("TRUTH", law, "BOTH MORETRUTH");
            put("MORETRUTH", law, "", "or BOTH MORETRUTH");
            put("BOTH", law, "UNIT MOREBOTH");
            put("MOREBOTH", law, "", "and UNIT MOREBOTH");
            put("UNIT", law, "not UNIT", "[ TRUTH ]", "SUM = SUM", "SUM < SUM", "SUM > SUM");
        }
    }

    private static void put(String name, String law, String... ways) {
        String[] own = new String[ways.length];
        for (int i = 0; i < ways.length; i++) {
            own[i] = ways[i].replaceAll("\\b([A-Z][A-Z]+)\\b", "$1." + law);
        }
        GRAMMAR.put(name + "." + law, own);
    }

    private final String text;
    private Set<String> stacks = new LinkedHashSet<>(List.of("TEXT"));
    private final List<String> line = new ArrayList<>();
    private final List<String> open = new ArrayList<>();
    private final Map<String, Integer> seen = new HashMap<>();
    private int places;
    private int fault;
    private int place = -1;
    private int lines;

    private ReaderTest(String text) {
        this.text = text;
    }

    /** What can stand there; all ways to go on behind it. */
    private Set<String> behind(String token) {
        Set<String> next = new LinkedHashSet<>();
        List<String> todo = new ArrayList<>(stacks);
        Set<String> done = new LinkedHashSet<>();
        while (!todo.isEmpty()) {
            String stack = todo.remove(todo.size() - 1);
            if (!done.add(stack)) {
                continue;
            }
            int cut = stack.indexOf(' ');
            String top = cut < 0 ? stack : stack.substring(0, cut);
            String rest = cut < 0 ? "" : stack.substring(cut + 1);
            String[] ways = GRAMMAR.get(top);
            if (ways != null) {
                for (String way : ways) {
                    todo.add((way + " " + rest).trim());
                }
            } else if (top.equals(token)) {
                next.add(rest);
            }
        }
        return next;
    }

    private void read() {
        int i = 0;
        while (fault == 0) {
            while (i < text.length() && (text.charAt(i) == 10 || text.charAt(i) == 32)) {
                i++;
            }
            int end = i;
            while (end < text.length() && Character.toString(text.charAt(end)).matches("[a-z]")) {
                end++;
            }
            while (end == i || end < text.length() && text.substring(i, end).matches("[0-9]+")) {
                if (end >= text.length() || !Character.toString(text.charAt(end)).matches("[0-9]")) {
                    break;
                }
                end++;
            }
            if (i >= text.length()) {
                finish(text.length());
                return;
            }
            String token = end > i ? text.substring(i, end) : text.substring(i, i + 1);
            place = i;
            take(token);
            i += token.length();
        }
    }

    private void finish(int at) {
        place = at;
        boolean ends = stacks.contains("LINES");
        fault = ends ? 0 : 2;
        place = ends ? -1 : at;
    }

    private void take(String token) {
        if (!token.matches("[a-z]+|[0-9]{1,3}|[;:+\\-*()\\[\\]=<>]")) {
            fault = 1;
            return;
        }
        boolean number = token.matches("[0-9]+");
        Set<String> next = behind(number ? "N" : token.matches("[A-Z]+") ? "?" : token);
        if (next.isEmpty()) {
            fault = 2;
            return;
        }
        line.add(token);
        if (number && !bounded(Integer.parseInt(token))) {
            fault = 3;
            return;
        }
        if (tooMany(token)) {
            fault = 4;
            return;
        }
        stacks = new LinkedHashSet<>();
        for (String stack : next) {
            stacks.add(stack);
        }
        if (token.equals(";")) {
            lines++;
            seen.merge(line.get(0), 1, Integer::sum);
            line.clear();
            open.clear();
        }
    }

    private boolean bounded(int n) {
        int people = seen.getOrDefault("person", 0);
        String form = String.join(" ", line).replaceAll("[0-9]+", "N");
        switch (form) {
            case "valley places N":
                places = n;
                return n >= 1 && n <= 6;
            case "valley places N hour N":
            case "person at N strong N":
                return n <= 9;
            case "road N":
            case "person at N":
            case "coin at N":
                return n < places;
            case "road N N":
                return n < places && n != Integer.parseInt(line.get(1));
            case "road N N long N":
                return n >= 1 && n <= 9;
            case "quarrel N":
                return n < people;
            case "quarrel N N":
                return n < people && n != Integer.parseInt(line.get(1));
            case "coin at N weight N":
            case "coin at N weight N worth N":
                return n <= 99;
            default:
                return true;
        }
    }

    private boolean tooMany(String token) {
        if (line.size() == 1) {
            int most = token.equals("road") ? 9 : token.equals("person") ? 8 : token.equals("coin") ? 4 : 1000;
            return seen.getOrDefault(token, 0) >= most;
        }
        if (!line.get(0).equals("may") && !line.get(0).equals("wears")) {
            return false;
        }
        if (token.matches("and|or|\\]|then")) {
            while (!open.isEmpty() && open.get(open.size() - 1).equals("not")) {
                open.remove(open.size() - 1);
            }
        }
        if (token.matches("\\]|\\)|end")) {
            open.remove(open.size() - 1);
        }
        if (token.matches("not|\\[|\\(|if")) {
            open.add(token);
        }
        return open.size() > 6;
    }

    private static String mutate(Random r, String text) {
        List<String> tokens = new ArrayList<>(List.of(text.trim().split(" ")));
        String[] some = {"valley", "places", "hour", "road", "long", "person", "at", "strong", "quarrel", "coin", "weight",
            "worth", "may", "wears", "if", "then", "else", "end", "and", "or", "not", "far", "lesser", "x", ";", ":", "+",
            "-", "*", "(", ")", "[", "]", "=", "<", ">", "0", "1", "5", "6", "9", "10", "99", "100", "999", "1000", "00001",
            "A", "#", "\t", "\u00e9", ";;", "not not", "( (", "0001", "001"};
        for (int i = r.nextInt(3); i > 0 && !tokens.isEmpty(); i--) {
            int at = r.nextInt(tokens.size());
            String token = some[r.nextInt(some.length)];
            switch (r.nextInt(4)) {
                case 0:
                    tokens.remove(at);
                    break;
                case 1:
                    tokens.set(at, token);
                    break;
                case 2:
                    tokens.add(at, token);
                    break;
                default:
                    tokens = new ArrayList<>(tokens.subList(0, at));
                    break;
            }
        }
        StringBuilder all = new StringBuilder();
        for (String token : tokens) {
            char last = all.length() == 0 ? ' ' : all.charAt(all.length() - 1);
            boolean letters = Character.isLetter(last) && Character.isLetter(token.charAt(0));
            boolean digits = Character.isDigit(last) && Character.isDigit(token.charAt(0));
            if (letters || digits || r.nextInt(3) == 0) {
                all.append(r.nextInt(8) == 0 ? "\n" : " ");
            }
            all.append(token);
        }
        return all.length() > 900 ? all.substring(0, 900) : all.toString();
    }

    /** A valley whose law opens many of not [ ( if. */
    private static String deep(Random r) {
        StringBuilder law = new StringBuilder("valley places 1 hour 0 ; ");
        StringBuilder behind = new StringBuilder();
        boolean truth = r.nextBoolean();
        law.append(truth ? "may : " : "wears : ");
        for (int i = 4 + r.nextInt(4); i > 0; i--) {
            int pick = r.nextInt(truth ? 4 : 2);
            if (pick == 0) {
                law.append(truth ? "1 < ( " : "2 * ( ");
                behind.insert(0, ") ");
                truth = false;
            } else if (pick == 1) {
                law.append(truth ? "3 > if " : "if ");
                behind.insert(0, "then 1 else if 1 = 1 then 2 else 3 end end ");
                truth = true;
            } else if (pick == 2) {
                law.append("not ");
            } else {
                law.append("[ ");
                behind.insert(0, "or not 1 > 2 ] ");
            }
        }
        law.append(truth ? "1 = 1 " : "7 ").append(behind);
        return law.append("; ").toString();
    }

    public static void main(String[] args) {
        Due due = new Due("ReaderTest");
        int[] kinds = new int[5];
        int texts = args.length > 0 ? Integer.parseInt(args[0]) : 4000;
        for (int seed = 0; seed < texts; seed++) {
            Random r = new Random(seed * 0x9E3779B97F4A7C15L);
            String text = mutate(r, r.nextInt(4) == 0 ? deep(r) : Naive.random(r).text);
            ReaderTest t = new ReaderTest(text);
            t.read();
            kinds[t.fault]++;
            CoinPairs x = new CoinPairs();
            int answer = Due.valley(x, text);
            due.is("valley of seed " + seed + ": " + text, answer, t.fault == 0 ? t.lines : -30 - t.fault);
            due.is("fault(0) of seed " + seed, x.fault(0), t.fault);
            due.is("fault(1) of seed " + seed + ": " + text, x.fault(1), t.place);
        }
        for (int kind = 0; kind < 5; kind++) {
            due.holds("faults of kind " + kind + " were met, " + kinds[kind], kinds[kind] > texts / 200);
        }
        due.end();
    }
}
