import java.io.IOException;
import java.nio.file.Path;
import java.util.function.Supplier;
import java.util.function.ToLongFunction;

/** Boundary cases, each a test of its own that names its promise and the document's sentence. */
final class Edges {
    private final Document document;
    private final int[] casesOf = new int[Document.PROMISES + 1];
    private String current = "";
    private int cases;
    private int answers;
    private int wrong;

    Edges() throws IOException {
        document = new Document(Path.of("../shared/DOC.md"));
    }

    void edge(int promise, String sentence, String which, Runnable calls) {
        current = "promise " + promise + ", \"" + sentence + "\", " + which;
        cases++;
        casesOf[promise]++;
        if (!document.name(promise, sentence)) {
            tell("the document has no such sentence, or several");
        }
        int before = answers;
        try {
            calls.run();
        } catch (RuntimeException e) {
            tell("threw " + e);
        }
        if (answers == before) {
            tell("nothing was asked");
        }
    }

    private void tell(String what) {
        wrong++;
        System.out.println(current + ": " + what);
    }

    void is(String call, long got, long due) {
        answers++;
        if (got != due) {
            tell(call + " answered " + got + ", due is " + due);
        }
    }

    /** Refused calls answer by a code and change nothing: what can be seen is as on another object made so. */
    void refused(String call, long due, Supplier<CoinPairs> made, ToLongFunction<CoinPairs> asked) {
        CoinPairs x = made.get();
        is(call, asked.applyAsLong(x), due);
        String after = Seen.all(x);
        String before = Seen.all(made.get());
        if (!after.equals(before)) {
            tell(call + " changed something:\n  " + before + "\n  " + after);
        }
    }

    /** A text with a fault, as valley() and fault() tell it. */
    void fault(String text, int kind, int place) {
        CoinPairs x = new CoinPairs();
        is("valley of " + text, Due.valley(x, text), -30 - kind);
        is("fault(0) of " + text, x.fault(0), kind);
        is("fault(1) of " + text, x.fault(1), place);
    }

    /** A text without one. */
    void lines(String text, int due) {
        CoinPairs x = new CoinPairs();
        is("valley of " + text, Due.valley(x, text), due);
        is("fault(0) of " + text, x.fault(0), 0);
        is("fault(1) of " + text, x.fault(1), -1);
    }

    /** Whether all was as due, and each promise and sentence has a case. */
    boolean end() {
        for (int promise = 1; promise <= Document.PROMISES; promise++) {
            if (casesOf[promise] == 0) {
                current = "promise " + promise;
                tell("no case");
            }
        }
        for (String stretch : document.unnamed()) {
            current = "no case names";
            tell(stretch);
        }
        System.out.println("EdgesTest: " + cases + " cases, " + answers + " answers, " + wrong + " not as due");
        return wrong == 0;
    }
}
