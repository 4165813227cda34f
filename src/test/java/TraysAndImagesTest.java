/** Promises 43 to 48: trays, lists, images, counts. */
public final class TraysAndImagesTest {
    private static final Due DUE = new Due("TraysAndImagesTest");

    public static void main(String[] args) {
        numbers();
        write();
        lists();
        image();
        imageOfNothing();
        count();
        DUE.end();
    }

    private static void numbers() {
        CoinPairs x = new CoinPairs();
        DUE.is("tray 4", x.numbers(4, 0, 0), -2);
        DUE.is("tray -1", x.numbers(-1, 0, 0), -2);
        DUE.is("sort 4, ahead of n", x.numbers(0, 4, -1), -2);
        DUE.is("sort -1", x.numbers(0, -1, 0), -2);
        DUE.is("n -1", x.numbers(0, 0, -1), -3);
        DUE.is("n 41", x.numbers(0, 0, 41), -3);
        DUE.is("still missing", x.write(0, 0, 1), -6);
        DUE.is("40", x.numbers(0, 0, 40), 0);
        DUE.is("the last", x.write(0, 39, 7), 7);
        DUE.is("n 41", x.numbers(0, 0, 41), -3);
        DUE.is("the tray stays", x.write(0, 39, 8), 8);
        DUE.is("none", x.numbers(0, 3, 0), 0);
        DUE.is("no number", x.write(0, 0, 1), -7);
        DUE.is("others are missing", x.write(3, 0, 1), -6);
        x.numbers(1, 1, 3);
        for (int i = 0; i < 3; i++) {
            x.write(1, i, 12);
        }
        DUE.is("three hours", x.perform(1), 3);
        DUE.is("in place of it", x.numbers(1, 1, 3), 0);
        DUE.is("all 0 again", x.perform(1), 0);
    }

    private static void write() {
        CoinPairs x = new CoinPairs();
        DUE.is("tray 4", x.write(4, 0, 1), -2);
        DUE.is("tray -1", x.write(-1, -1, 1), -2);
        DUE.is("missing, ahead of the number", x.write(0, -1, 1), -6);
        for (int sort = 0; sort < 4; sort++) {
            x.numbers(sort, sort, 2);
        }
        DUE.is("number -1", x.write(0, -1, 1), -7);
        DUE.is("number 2", x.write(0, 2, 1), -7);
        DUE.is("number 1", x.write(0, 1, 1), 1);
        long[] values = {0, 127, 128, 255, 256, -1, -128, -129, 32767, 32768, 65535, -32769, 2147483647L, 2147483648L,
            -2147483649L, Long.MAX_VALUE, Long.MIN_VALUE};
        for (long v : values) {
            DUE.is("8 bits of " + v, x.write(0, 0, v), (byte) v);
            DUE.is("16 bits of " + v, x.write(1, 0, v), (short) v);
            DUE.is("32 bits of " + v, x.write(2, 0, v), (int) v);
            DUE.is("64 bits of " + v, x.write(3, 0, v), v);
        }
    }

    private static void lists() {
        CoinPairs x = Due.of("valley places 4 hour 0;road 0 1 long 1;road 1 2 long 1;person at 0 strong 3;"
            + "person at 0 strong 3;coin at 0 weight 6 worth 4;");
        DUE.is("no such tray", x.lists(4, 0, 2), -2);
        DUE.is("no such coin, ahead of missing", x.lists(0, 1, 2), -2);
        DUE.is("no such place, ahead of missing", x.lists(0, 0, 4), -2);
        DUE.is("missing, ahead of it can't", x.lists(0, 0, 3), -6);
        Due.tray(x, 0, 5, 5, 12);
        DUE.is("it can't", x.lists(0, 0, 3), -5);
        DUE.is("and the tray stays", x.judge(0, 0), 0);
        DUE.is("two deeds", x.lists(0, 0, 2), 2);
        DUE.is("and the one behind them stays", x.perform(0), 3);
        DUE.is("where", x.coin(0, 0), 2);
        DUE.is("hour", x.count(4), 2);
        x.undo(1);
        x.numbers(1, 1, 1);
        DUE.is("as far as it has places", x.lists(1, 0, 2), 1);
        DUE.is("the first", x.perform(1), 1);
        DUE.is("where", x.coin(0, 0), 1);
        DUE.is("there already", x.lists(1, 0, 1), 0);
        x.numbers(1, 1, 0);
        DUE.is("no places", x.lists(1, 0, 2), 0);
        DUE.is("no places, and it can't", x.lists(1, 0, 3), -5);
        // 10102 cut to 8 bits is 118: people 1 and 8.
        x.numbers(1, 0, 1);
        DUE.is("cut to its sort", x.lists(1, 0, 2), 1);
        DUE.is("no deed of carrying", x.judge(1, 1), 1);
        DUE.is("nothing was done", x.coin(0, 0), 1);
    }

    private static void image() {
        CoinPairs x = Due.of(ValleyTest.FOUR);
        x.carry(0, 1, 0, 1);
        x.hour(5);
        x.quarrel(1, 3);
        DUE.is("image 2", x.image(2), -2);
        DUE.is("image -1", x.image(-1), -2);
        DUE.is("restore 2", x.restore(2), -2);
        DUE.is("restore -1", x.restore(-1), -2);
        DUE.is("none was made", x.restore(1), -5);
        DUE.is("made", x.image(1), 0);
        DUE.is("not the other one", x.restore(0), -5);
        DUE.is("what can be undone stays", x.count(8), 3);
        x.undo(3);
        x.hour(9);
        Due.tray(x, 0, 12);
        Due.valley(x, "valley places 2 hour 0;road 0 1 long 9;may:1=2;#");
        Due.valley(x, "valley places 2 hour 0;road 0 1 long 9;may:1=2;");
        Due.feed(x, "some");
        x.image(0);
        DUE.is("restored", x.restore(1), 0);
        int[] counts = {4, 3, 4, 2, 5, 2, 1, 2, 0, 20, 11};
        for (int what = 0; what < counts.length; what++) {
            DUE.is("restored count(" + what + ")", x.count(what), counts[what]);
        }
        DUE.is("where", x.coin(0, 0), 1);
        DUE.is("worn", x.coin(0, 3), 2);
        DUE.is("roads", x.road(2, 2), 7);
        DUE.is("far", x.far(0, 2), 5);
        DUE.is("laws", x.why(0, 1, 0, 2), 0);
        DUE.is("nothing can be undone", x.undo(1), -3);
        DUE.is("trays stay", x.perform(0), 1);
        DUE.is("and again", x.restore(1), 0);
        DUE.is("hour", x.count(4), 5);
        DUE.is("the other one", x.restore(0), 0);
        DUE.is("places", x.count(0), 2);
        DUE.is("lines", x.count(10), 3);
        x.restore(1);
        x.hour(1);
        x.image(1);
        x.hour(2);
        x.restore(1);
        DUE.is("made anew", x.count(4), 1);
        DUE.is("nothing to be undone behind deeds and a restore", x.count(8), 0);
        DUE.is("nothing to be undone", x.undo(1), -3);
    }

    private static void imageOfNothing() {
        CoinPairs x = new CoinPairs();
        x.hour(3);
        DUE.is("made", x.image(0), 0);
        Due.valley(x, ValleyTest.FOUR);
        DUE.is("restored", x.restore(0), 0);
        int[] counts = {1, 0, 0, 0, 3, 0, 0, 0, 0, 0, 0};
        for (int what = 0; what < counts.length; what++) {
            DUE.is("count(" + what + ") of nothing", x.count(what), counts[what]);
        }
    }

    private static void count() {
        CoinPairs x = Due.of(ValleyTest.FOUR);
        int[] counts = {4, 3, 4, 2, 2, 1, 0, 0, 0, 0, 11};
        for (int what = 0; what < counts.length; what++) {
            DUE.is("count(" + what + ")", x.count(what), counts[what]);
        }
        x.carry(0, 1, 0, 1);
        x.carry(0, 1, 0, 2);
        x.quarrel(0, 2);
        x.carry(0, 2, 1, 1);
        Due.feed(x, "x");
        int[] then = {4, 3, 4, 2, 2, 0, 3, 8, 4, 20, 11};
        for (int what = 0; what < then.length; what++) {
            DUE.is("then count(" + what + ")", x.count(what), then[what]);
        }
        DUE.is("count(11)", x.count(11), -1);
        DUE.is("count(-1)", x.count(-1), -1);
    }
}
