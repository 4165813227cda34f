import java.io.IOException;
import java.nio.file.Files;
import java.nio.file.Path;
import java.util.ArrayList;
import java.util.List;
import java.util.regex.Matcher;
import java.util.regex.Pattern;

/** The document's sentences, and which of them some test has named. */
final class Document {
    static final int PROMISES = 48;

    /** Number 0 is what stands ahead of the promises; blanks are one blank each. */
    private final String[] parts = new String[PROMISES + 1];
    private final boolean[][] named = new boolean[PROMISES + 1][];

    Document(Path path) throws IOException {
        String all = Files.readString(path);
        Matcher m = Pattern.compile("## Promise (\\d+): .*\n\n`.*`: (.*)\n").matcher(all);
        while (m.find()) {
            parts[Integer.parseInt(m.group(1))] = m.group(2).trim();
        }
        String terms = all.substring(all.indexOf("\n## Terms\n") + 10, all.indexOf("\n## Promise 1:"));
        String use = all.substring(all.indexOf("An object is used"), all.indexOf("\n## The public face"));
        String said = terms.replaceAll("(?m)^Ahead of the calls .*$", "").replaceAll("```(text)?|==== [23]\\.", "");
        parts[0] = (use + said).replaceAll("\\s+", " ").trim();
        for (int i = 0; i <= PROMISES; i++) {
            named[i] = new boolean[parts[i] == null ? 0 : parts[i].length()];
        }
    }

    /** Whether a promise, or what stands ahead of all, has that sentence just once; it is named then. */
    boolean name(int promise, String sentence) {
        return nameIn(promise, sentence) || nameIn(0, sentence);
    }

    private boolean nameIn(int part, String sentence) {
        String text = parts[part];
        int at = text == null ? -1 : text.indexOf(sentence);
        if (at < 0 || text.indexOf(sentence, at + 1) >= 0) {
            return false;
        }
        for (int i = at; i < at + sentence.length(); i++) {
            named[part][i] = true;
        }
        return true;
    }

    /** What no test names, a line for each stretch that has a letter or a digit. */
    List<String> unnamed() {
        List<String> left = new ArrayList<>();
        for (int part = 0; part <= PROMISES; part++) {
            StringBuilder stretch = new StringBuilder();
            int length = named[part].length;
            if (length == 0) {
                left.add(part + ": nothing was found");
            }
            for (int i = 0; i <= length; i++) {
                if (i < length && !named[part][i]) {
                    stretch.append(parts[part].charAt(i));
                } else if (stretch.length() > 0) {
                    if (stretch.toString().matches(".*[A-Za-z0-9].*")) {
                        left.add(part + ": " + stretch.toString().trim());
                    }
                    stretch.setLength(0);
                }
            }
        }
        return left;
    }
}
