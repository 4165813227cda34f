import java.util.Random;

/** A random law: a tree that tells its own text and reckons itself, without any reading. */
final class Law {
    private final String kind;
    private final Law[] parts;
    private final long number;

    private Law(String kind, long number, Law... parts) {
        this.kind = kind;
        this.number = number;
        this.parts = parts;
    }

    /** nest: how many of not [ ( if may still be opened. */
    static Law sum(Random r, int nest, int size, boolean wears) {
        int terms = 1 + r.nextInt(size > 2 ? 3 : 2);
        Law law = term(r, nest, size - 1, wears);
        for (int i = 1; i < terms; i++) {
            law = new Law(r.nextBoolean() ? "+" : "-", 0, law, term(r, nest, size - 1, wears));
        }
        return law;
    }

    private static Law term(Random r, int nest, int size, boolean wears) {
        Law law = atom(r, nest, size, wears);
        if (r.nextInt(3) == 0) {
            law = new Law("*", 0, law, atom(r, nest, size, wears));
        }
        return law;
    }

    private static Law atom(Random r, int nest, int size, boolean wears) {
        String[] facts = {"strong", "weight", "far", "long", "hour", "lesser"};
        int pick = r.nextInt(10);
        if (nest > 0 && size > 0 && pick < 2) {
            return new Law("(", 0, sum(r, nest - 1, size - 1, wears));
        }
        if (nest > 0 && size > 0 && pick < 4) {
            return new Law("if", 0, truth(r, nest - 1, size - 1, wears), sum(r, nest - 1, size - 1, wears),
                sum(r, nest - 1, size - 1, wears));
        }
        if (pick < 8) {
            return new Law(facts[r.nextInt(wears ? 6 : 5)], 0);
        }
        return new Law("N", r.nextInt(8) == 0 ? r.nextInt(1000) : r.nextInt(12));
    }

    static Law truth(Random r, int nest, int size, boolean wears) {
        Law law = both(r, nest, size, wears);
        for (int i = r.nextInt(2); i > 0; i--) {
            law = new Law("or", 0, law, both(r, nest, size - 1, wears));
        }
        return law;
    }

    private static Law both(Random r, int nest, int size, boolean wears) {
        Law law = unit(r, nest, size, wears);
        if (r.nextInt(3) == 0) {
            law = new Law("and", 0, law, unit(r, nest, size - 1, wears));
        }
        return law;
    }

    private static Law unit(Random r, int nest, int size, boolean wears) {
        int pick = r.nextInt(6);
        if (nest > 0 && pick == 0) {
            return new Law("not", 0, unit(r, nest - 1, size, wears));
        }
        if (nest > 0 && size > 0 && pick == 1) {
            return new Law("[", 0, truth(r, nest - 1, size - 1, wears));
        }
        String[] signs = {"=", "<", ">"};
        return new Law(signs[r.nextInt(3)], 0, sum(r, nest, size - 1, wears), sum(r, nest, size - 1, wears));
    }

    /** Tokens with one blank between them. */
    String text() {
        switch (kind) {
            case "N":
                return "" + number;
            case "(":
                return "( " + parts[0].text() + " )";
            case "[":
                return "[ " + parts[0].text() + " ]";
            case "not":
                return "not " + parts[0].text();
            case "if":
                return "if " + parts[0].text() + " then " + parts[1].text() + " else " + parts[2].text() + " end";
            default:
                return parts.length == 0 ? kind : parts[0].text() + " " + kind + " " + parts[1].text();
        }
    }

    private static long kept(long v) {
        return v > 1_000_000 ? 1_000_000 : v < -1_000_000 ? -1_000_000 : v;
    }

    /** facts: strong, weight, far, long, hour, lesser. */
    long told(long[] facts) {
        switch (kind) {
            case "N":
                return number;
            case "strong":
                return facts[0];
            case "weight":
                return facts[1];
            case "far":
                return facts[2];
            case "long":
                return facts[3];
            case "hour":
                return facts[4];
            case "lesser":
                return facts[5];
            case "(":
                return parts[0].told(facts);
            case "if":
                return parts[0].holds(facts) ? parts[1].told(facts) : parts[2].told(facts);
            case "+":
                return kept(parts[0].told(facts) + parts[1].told(facts));
            case "-":
                return kept(parts[0].told(facts) - parts[1].told(facts));
            case "*":
                return kept(parts[0].told(facts) * parts[1].told(facts));
            default:
                throw new IllegalStateException(kind);
        }
    }

    boolean holds(long[] facts) {
        switch (kind) {
            case "not":
                return !parts[0].holds(facts);
            case "[":
                return parts[0].holds(facts);
            case "and":
                return parts[0].holds(facts) && parts[1].holds(facts);
            case "or":
                return parts[0].holds(facts) || parts[1].holds(facts);
            case "=":
                return parts[0].told(facts) == parts[1].told(facts);
            case "<":
                return parts[0].told(facts) < parts[1].told(facts);
            case ">":
                return parts[0].told(facts) > parts[1].told(facts);
            default:
                throw new IllegalStateException(kind);
        }
    }
}
