/** Counts answers that are not as due, and tells texts to the tape. */
final class Due {
    private final String name;
    private int seen;
    private int wrong;

    Due(String name) {
        this.name = name;
    }

    void is(String call, long got, long due) {
        seen++;
        if (got != due) {
            wrong++;
            System.out.println(name + ": " + call + " answered " + got + ", due is " + due);
        }
    }

    void holds(String what, boolean so) {
        is(what, so ? 1 : 0, 1);
    }

    boolean anyWrong() {
        return wrong > 0;
    }

    void end() {
        System.out.println(name + ": " + seen + " answers, " + wrong + " not as due");
        if (wrong > 0) {
            System.exit(1);
        }
    }

    /** Feeds a text, filled up with blanks; the texts are of at most 900 signs. */
    static void feed(CoinPairs x, String text) {
        StringBuilder all = new StringBuilder(text);
        while (all.length() % 20 != 0) {
            all.append(' ');
        }
        for (int i = 0; i < all.length(); i += 20) {
            x.feed(word(all, i), word(all, i + 4), word(all, i + 8), word(all, i + 12), word(all, i + 16));
        }
    }

    private static int word(CharSequence s, int i) {
        return s.charAt(i) << 24 | s.charAt(i + 1) << 16 | s.charAt(i + 2) << 8 | s.charAt(i + 3);
    }

    static int valley(CoinPairs x, String text) {
        feed(x, text);
        return x.valley(text.length());
    }

    static CoinPairs of(String text) {
        CoinPairs x = new CoinPairs();
        int lines = valley(x, text);
        if (lines < 0) {
            throw new IllegalStateException("a test's own text: " + lines + " at " + x.fault(1) + ": " + text);
        }
        return x;
    }

    static void tray(CoinPairs x, int tray, long... numbers) {
        x.numbers(tray, 3, numbers.length);
        for (int i = 0; i < numbers.length; i++) {
            x.write(tray, i, numbers[i]);
        }
    }
}
