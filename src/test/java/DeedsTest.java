/** Promises 12 to 18: deeds done, undone, judged, drawn. */
public final class DeedsTest {
    private static final Due DUE = new Due("DeedsTest");

    public static void main(String[] args) {
        carry();
        quarrel();
        hour();
        undo();
        undoForgetsTheEldest();
        judge();
        perform();
        year();
        DUE.end();
    }

    private static void carry() {
        CoinPairs x = Due.of(ValleyTest.FOUR);
        DUE.is("carried", x.carry(1, 0, 0, 1), 2);
        DUE.is("where", x.coin(0, 0), 1);
        DUE.is("worn", x.coin(0, 3), 2);
        DUE.is("many", x.count(6), 1);
        DUE.is("no such person", x.carry(4, 0, 0, 2), -11);
        DUE.is("both one", x.carry(1, 1, 0, 2), -11);
        DUE.is("no such coin", x.carry(0, 1, 2, 2), -11);
        DUE.is("no such place", x.carry(0, 1, 0, 4), -11);
        DUE.is("no road", x.carry(0, 1, 0, 3), -12);
        DUE.is("where it is", x.carry(0, 1, 0, 1), -12);
        DUE.is("quarrelled", x.carry(0, 2, 0, 2), -13);
        DUE.is("law", x.carry(0, 3, 0, 2), -14);
        DUE.is("nothing was done by these", x.count(6) * 10 + x.count(8), 11);
        DUE.is("on", x.carry(0, 1, 0, 2), 3);
        DUE.is("worn more", x.coin(0, 3), 5);
        DUE.is("all together", x.count(7), 5);
        DUE.is("people live where they do", x.person(0, 0), 0);
        carryWithoutWear();
    }

    private static void carryWithoutWear() {
        CoinPairs x = Due.of("valley places 2 hour 0;road 0 1 long 1;person at 0 strong 1;person at 0 strong 1;"
            + "coin at 0 weight 0 worth 0;wears:0 - 5;");
        DUE.is("they can", x.why(0, 1, 0, 1), 0);
        DUE.is("worn by nothing", x.worn(0, 1, 0, 1), 0);
        DUE.is("a pair that can", x.bearers(0, 1), 1);
        DUE.is("carried", x.carry(0, 1, 0, 1), 0);
        DUE.is("where", x.coin(0, 0), 1);
        DUE.is("many", x.count(6), 1);
        Due.tray(x, 0, 10100);
        DUE.is("as a deed", x.perform(0), 1);
        DUE.is("where", x.coin(0, 0), 0);
        DUE.is("many", x.count(6), 2);
        Due.tray(x, 0, 1010);
        DUE.is("at all hours", x.hours(0), 1023);
        Due.tray(x, 0, 0, 0);
        DUE.is("there and back", x.wornBy(0, 0), 1);
    }

    private static void quarrel() {
        CoinPairs x = Due.of(ValleyTest.FOUR);
        DUE.is("begun", x.quarrel(0, 1), 1);
        DUE.is("both", x.person(0, 2) * 10 + x.person(1, 2), 61);
        DUE.is("there are", x.count(5), 2);
        DUE.is("made up", x.quarrel(1, 0), 0);
        DUE.is("made up that which was told", x.quarrel(2, 0), 0);
        DUE.is("there are none", x.count(5), 0);
        DUE.is("both one", x.quarrel(1, 1), -11);
        DUE.is("no such", x.quarrel(0, 4), -11);
        DUE.is("no such", x.quarrel(-1, 0), -11);
        DUE.is("calls that can be undone", x.count(8), 3);
    }

    private static void hour() {
        CoinPairs x = Due.of(ValleyTest.FOUR);
        DUE.is("what it was", x.hour(9), 2);
        DUE.is("what it was", x.hour(0), 9);
        DUE.is("no such", x.hour(10), -11);
        DUE.is("no such", x.hour(-1), -11);
        DUE.is("it is", x.count(4), 0);
        DUE.is("calls", x.count(8), 2);
        DUE.is("the same one", x.hour(0), 0);
        DUE.is("is a deed, too", x.count(8), 3);
    }

    private static void undo() {
        CoinPairs x = Due.of(ValleyTest.FOUR);
        DUE.is("nothing yet", x.undo(1), -3);
        x.carry(0, 1, 0, 1);
        x.quarrel(0, 1);
        x.hour(8);
        DUE.is("0", x.undo(0), -3);
        DUE.is("-1", x.undo(-1), -3);
        DUE.is("11", x.undo(11), -3);
        DUE.is("more than can be", x.undo(4), -3);
        DUE.is("the hour", x.undo(1), 2);
        DUE.is("is back", x.count(4), 2);
        DUE.is("the quarrel stays", x.count(5), 2);
        DUE.is("both others", x.undo(2), 0);
        DUE.is("no quarrel", x.count(5), 1);
        DUE.is("coin", x.coin(0, 0), 0);
        DUE.is("worn", x.coin(0, 3), 0);
        DUE.is("carried", x.count(6), 0);
        DUE.is("no more", x.undo(1), -3);
    }

    private static void undoForgetsTheEldest() {
        CoinPairs x = Due.of("valley places 1 hour 0;");
        for (int i = 1; i <= 13; i++) {
            x.hour(i % 10);
        }
        DUE.is("10 at most", x.count(8), 10);
        DUE.is("five back", x.undo(5), 5);
        DUE.is("hour", x.count(4), 8);
        x.hour(1);
        DUE.is("one more", x.count(8), 6);
        DUE.is("all", x.undo(6), 0);
        DUE.is("hour", x.count(4), 3);
    }

    private static void judge() {
        CoinPairs x = Due.of(ValleyTest.FOUR);
        DUE.is("no such tray", x.judge(4, 0), -2);
        DUE.is("no such tray", x.judge(-1, 0), -2);
        DUE.is("no such what, ahead of missing", x.judge(0, 4), -2);
        DUE.is("no such what", x.judge(0, -1), -2);
        DUE.is("missing", x.judge(0, 0), -6);
        x.numbers(0, 1, 0);
        DUE.is("no deeds", x.judge(0, 0), -1);
        DUE.is("no deeds", x.judge(0, 1), 0);
        DUE.is("no deeds", x.judge(0, 2), 20);
        DUE.is("no deeds", x.judge(0, 3), 0);
        Due.tray(x, 1, 10101, 19, 102, 10212, 10102, 10102, 10101);
        DUE.is("the first that can't", x.judge(1, 0), 3);
        DUE.is("why: it is there already", x.judge(1, 1), 2);
        DUE.is("where", x.judge(1, 2), 21);
        DUE.is("worn", x.judge(1, 3), 2);
        Due.tray(x, 1, 10101, 102, 10102, 12101, 12112, 10101);
        DUE.is("the first can't be the greater one", x.judge(1, 0), 3);
        DUE.is("why", x.judge(1, 1), 1);
        Due.tray(x, 1, 10101, 120, 10102, 10211, 10201);
        DUE.is("the heavy one now", x.judge(1, 0), -1);
        DUE.is("why: it can", x.judge(1, 1), 0);
        DUE.is("where", x.judge(1, 2), 11);
        DUE.is("worn: 2 + 3 + 3 + 3", x.judge(1, 3), 11);
        DUE.is("nothing is done", x.count(6) + x.count(8) + x.coin(0, 0), 0);
        DUE.is("nor made up", x.count(5), 1);
        reasons(x);
    }

    private static void reason(CoinPairs x, long deed, int why) {
        Due.tray(x, 2, 19, deed);
        DUE.is("judge(0) of " + deed, x.judge(2, 0), why == 0 ? -1 : 1);
        DUE.is("judge(1) of " + deed, x.judge(2, 1), why);
    }

    private static void reasons(CoinPairs x) {
        long[] others = {0, 9, 20, 99, 200, 9999, 20000, -1, -10101, Long.MAX_VALUE, Long.MIN_VALUE, 10101L + (1L << 32)};
        for (long deed : others) {
            reason(x, deed, 1);
        }
        reason(x, 10, 0);
        reason(x, 103, 0);
        reason(x, 130, 0);
        reason(x, 100, 1);
        reason(x, 104, 1);
        reason(x, 140, 1);
        reason(x, 199, 1);
        reason(x, 10001, 1);
        reason(x, 11001, 1);
        reason(x, 10401, 1);
        reason(x, 10121, 1);
        reason(x, 10104, 1);
        reason(x, 10103, 2);
        reason(x, 10100, 2);
        reason(x, 10201, 3);
        reason(x, 10301, 4);
        reason(x, 10101, 0);
        reason(x, 19999, 1);
    }

    private static void perform() {
        CoinPairs x = Due.of(ValleyTest.FOUR);
        DUE.is("no such tray", x.perform(4), -2);
        DUE.is("no such tray", x.perform(-1), -2);
        DUE.is("missing", x.perform(3), -6);
        x.numbers(3, 0, 0);
        DUE.is("none", x.perform(3), 0);
        Due.tray(x, 3, 10301, 12);
        DUE.is("the first can't", x.perform(3), 0);
        DUE.is("so nothing to be undone", x.count(8), 0);
        Due.tray(x, 3, 10101, 17, 101, 10102, 10100);
        DUE.is("till one can't", x.perform(3), 3);
        DUE.is("where", x.coin(0, 0), 1);
        DUE.is("hour", x.count(4), 7);
        DUE.is("quarrels", x.count(5), 2);
        DUE.is("as one call", x.undo(1), 0);
        DUE.is("all is back", x.coin(0, 0) * 1000 + x.count(4) * 100 + x.count(5) * 10 + x.count(6), 210);
        Due.tray(x, 0, new long[40]);
        for (int i = 0; i < 40; i++) {
            x.write(0, i, 10 + i % 10);
        }
        DUE.is("forty deeds", x.perform(0), 40);
        DUE.is("judged, too", x.judge(0, 0), -1);
        x.numbers(0, 0, 2);
        x.write(0, 0, 127);
        x.write(0, 1, 15);
        DUE.is("a tray of bytes", x.perform(0), 0);
        x.write(0, 0, 112);
        DUE.is("a tray of bytes", x.perform(0), 2);
    }

    private static void year() {
        CoinPairs x = Due.of(ValleyTest.FOUR);
        DUE.is("times 0", x.year(1, 0), -3);
        DUE.is("times 41", x.year(1, 41), -3);
        DUE.is("times -1", x.year(1, -1), -3);
        DUE.is("nothing done", x.count(8), 0);
        // Seed 0: 12345 >>> 16 = 0: HOUR; then 1103515245 * 12345 + 12345 = -740551042: 54236 modulo 10.
        DUE.is("an hour drawn", x.year(0, 1), 1);
        DUE.is("it is", x.count(4), 6);
        DUE.is("one call", x.undo(1), 0);
        DUE.is("hour", x.count(4), 2);
        oneByOne(7);
        oneByOne(-99);
        oneByOne(Integer.MIN_VALUE);
        quarrelDrawn();
    }

    /** The same draws, told as deeds, each performed alone if it can be. */
    private static void oneByOne(int seed) {
        CoinPairs x = Due.of(ValleyTest.FOUR);
        CoinPairs y = Due.of(ValleyTest.FOUR);
        int[] draw = {seed};
        int could = 0;
        for (int i = 0; i < 40; i++) {
            long deed;
            int kind = next(draw) % 6;
            if (kind == 0) {
                deed = 10 + next(draw) % 10;
            } else if (kind == 1) {
                deed = 100 + 10 * (next(draw) % 8);
                deed += next(draw) % 8;
            } else {
                deed = 10000 + 1000 * (next(draw) % 8);
                deed += 100 * (next(draw) % 8);
                deed += 10 * (next(draw) % 4);
                deed += next(draw) % 6;
            }
            Due.tray(y, 0, deed);
            could += y.perform(0);
        }
        DUE.is("a year by " + seed, x.year(seed, 40), could);
        for (int what = 0; what < 8; what++) {
            DUE.is("then count(" + what + ") by " + seed, x.count(what), y.count(what));
        }
        DUE.is("as one call", x.count(8), could > 0 ? 1 : 0);
    }

    private static int next(int[] draw) {
        draw[0] = 1103515245 * draw[0] + 12345;
        return draw[0] >>> 16;
    }

    private static void quarrelDrawn() {
        CoinPairs x = new CoinPairs();
        for (int seed = 0; seed < 200; seed++) {
            int[] draw = {seed};
            if (next(draw) % 6 > 0) {
                DUE.is("nobody is there, seed " + seed, x.year(seed, 1), 0);
                DUE.is("no call to be undone", x.count(8), 0);
                return;
            }
        }
    }
}
