/** All that calls can tell of an object, as a text; the object is used up by it (some 300 calls). */
final class Seen {
    private Seen() {
    }

    static String all(CoinPairs x) {
        StringBuilder seen = new StringBuilder();
        now(x, seen);
        told(x, seen);
        trays(x, seen);
        past(x, seen);
        seen.append(" images");
        for (int i = 0; i < 2; i++) {
            seen.append(' ').append(x.restore(i));
            now(x, seen);
        }
        seen.append(" tape ").append(x.valley(x.count(9)));
        seen.append(' ').append(x.fault(0)).append(' ').append(x.fault(1));
        return seen.toString();
    }

    private static void now(CoinPairs x, StringBuilder seen) {
        seen.append(" now");
        for (int what = 0; what <= 10; what++) {
            seen.append(' ').append(x.count(what));
        }
        for (int c = 0; c < x.count(3); c++) {
            seen.append(' ').append(x.coin(c, 0)).append(' ').append(x.coin(c, 3));
        }
    }

    private static void told(CoinPairs x, StringBuilder seen) {
        seen.append(" fault ").append(x.fault(0)).append(' ').append(x.fault(1)).append(" told");
        for (int p = 0; p < x.count(2); p++) {
            seen.append(' ').append(x.person(p, 0)).append(x.person(p, 1)).append(' ').append(x.person(p, 2));
        }
        for (int r = 0; r < x.count(1); r++) {
            seen.append(' ').append(x.road(r, 0)).append(x.road(r, 1)).append(x.road(r, 2));
        }
        for (int c = 0; c < x.count(3); c++) {
            seen.append(' ').append(x.coin(c, 1)).append(' ').append(x.coin(c, 2));
        }
    }

    private static void trays(CoinPairs x, StringBuilder seen) {
        seen.append(" trays");
        for (int tray = 0; tray < 4; tray++) {
            for (int what = 0; what < 4; what++) {
                seen.append(' ').append(x.judge(tray, what));
            }
            seen.append(' ').append(x.hours(tray)).append(' ').append(x.wornBy(tray, 0));
        }
    }

    private static void past(CoinPairs x, StringBuilder seen) {
        seen.append(" past");
        for (int i = 0; i < 10 && x.undo(1) >= 0; i++) {
            for (int what = 4; what <= 8; what++) {
                seen.append(' ').append(x.count(what));
            }
        }
    }
}
