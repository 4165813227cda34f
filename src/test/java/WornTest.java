/** Promises 34 to 38: who carried by how the rim was worn, what the hour is. */
public final class WornTest {
    private static final Due DUE = new Due("WornTest");

    /** Worn by the lesser one's strength: 0 and 1: 1, 0 and 2: 1, 1 and 2: 2; along 1 to 2 one more. */
    private static final String THREE = "valley places 3 hour 0;road 0 1 long 1;road 1 2 long 2;person at 0 strong 1;"
        + "person at 0 strong 2;person at 0 strong 3;coin at 0 weight 0 worth 0;wears:lesser + long - 1;";

    /** Worn as late as it is, by 0 and 1; by 0 and 2 from hour 5 on; 1 and 2 always 3. */
    private static final String CLOCK = "valley places 2 hour 3;road 0 1 long 1;person at 0 strong 1;person at 0 strong 2;"
        + "person at 0 strong 4;coin at 0 weight 0 worth 0;coin at 1 weight 0 worth 0;"
        + "may:strong < 5 or strong = 6 or hour > 4;"
        + "wears:if strong = 3 then hour else if strong = 5 then 1 else 3 end end;";

    public static void main(String[] args) {
        wornBy();
        codes();
        wornFirst();
        who();
        hours();
        attempt();
        attemptCodes();
        DUE.end();
    }

    private static void wornBy() {
        CoinPairs x = Due.of(THREE);
        Due.tray(x, 0, 1);
        DUE.is("two pairs", x.wornBy(0, 0), 2);
        Due.tray(x, 0, 2);
        DUE.is("one pair", x.wornBy(0, 0), 1);
        Due.tray(x, 0, 3);
        DUE.is("none", x.wornBy(0, 0), 0);
        Due.tray(x, 0, -1);
        DUE.is("not known", x.wornBy(0, 0), 3);
        Due.tray(x, 0, 1, 2);
        DUE.is("back by 1 2, or on by two others", x.wornBy(0, 0), 2 + 4);
        Due.tray(x, 0, -1, 3, -1);
        DUE.is("on by 1 2, back to 1", x.wornBy(0, 0), 9);
        Due.tray(x, 0, -1, -1, -1, -1, -1, -1, -1, -1);
        DUE.is("all", x.wornBy(0, 0), x.rows(0, 0, 8) + x.rows(0, 1, 8) + x.rows(0, 2, 8));
        Due.tray(x, 0, 1, 1, 1, 1, 1, 1, 1, 9);
        DUE.is("never 9", x.wornBy(0, 0), 0);
        DUE.is("nothing is done", x.count(6) + x.count(8), 0);
        x.carry(0, 1, 0, 1);
        Due.tray(x, 0, 3);
        DUE.is("from now on", x.wornBy(0, 0), 1);
    }

    private static void codes() {
        CoinPairs x = Due.of(THREE);
        codes(x, 4, 0, -1, -2);
        codes(x, -1, 0, 0, -2);
        codes(x, 0, 1, -1, -2);
        codes(x, 0, -1, 0, -2);
        codes(x, 0, 0, -1, -6);
        x.numbers(0, 0, 0);
        codes(x, 0, 0, -1, -4);
        Due.tray(x, 0, 10, 0, 0, 0, 0, 0, 0, 0, 0);
        codes(x, 0, 0, -1, -4);
        Due.tray(x, 0, 10);
        codes(x, 0, 0, 0, -3);
        Due.tray(x, 0, -2);
        codes(x, 0, 0, 0, -3);
        Due.tray(x, 0, 1, 1L << 32);
        codes(x, 0, 0, 0, -3);
        Due.tray(x, 0, 1, 1, 1, 1, 1, 1, 1, -2);
        codes(x, 0, 0, 8, -3);
    }

    private static void codes(CoinPairs x, int tray, int c, int i, int code) {
        DUE.is("wornBy(" + tray + ", " + c + ")", x.wornBy(tray, c), code);
        DUE.is("wornFirst(" + tray + ", " + c + ", " + i + ")", x.wornFirst(tray, c, i), code);
        DUE.is("who(" + tray + ", " + c + ", " + i + ")", x.who(tray, c, i), code);
    }

    private static void wornFirst() {
        CoinPairs x = Due.of(THREE);
        Due.tray(x, 1, 1, 2, 2);
        DUE.is("first", x.wornFirst(1, 0, 0), 10101);
        DUE.is("second: 10102 is ahead of 11200", x.wornFirst(1, 0, 1), 10102);
        DUE.is("third", x.wornFirst(1, 0, 2), 10101);
        DUE.is("not so many", x.wornFirst(1, 0, 3), -1);
        DUE.is("below 0", x.wornFirst(1, 0, -1), -3);
        Due.tray(x, 1, 1, 2, 1);
        DUE.is("the second must go back", x.wornFirst(1, 0, 1), 11200);
        Due.tray(x, 1, 3);
        DUE.is("there are none", x.wornFirst(1, 0, 0), -1);
        DUE.is("there are none, but below 0", x.wornFirst(1, 0, -1), -3);
    }

    private static void who() {
        CoinPairs x = Due.of(THREE);
        Due.tray(x, 2, 1, 2, 1);
        DUE.is("0 and 1 or 0 and 2", x.who(2, 0, 0), 7);
        DUE.is("1 and 2", x.who(2, 0, 1), 6);
        DUE.is("0 with 1 or 2", x.who(2, 0, 2), 7);
        DUE.is("no such", x.who(2, 0, 3), -7);
        DUE.is("below 0", x.who(2, 0, -1), -3);
        Due.tray(x, 2, 3);
        DUE.is("none", x.who(2, 0, 0), 0);
        DUE.is("none, and no such", x.who(2, 0, 1), -7);
        Due.tray(x, 2, 2, 2, 9);
        DUE.is("none in the end", x.who(2, 0, 0), 0);
    }

    private static void hours() {
        CoinPairs x = Due.of(CLOCK);
        Due.tray(x, 0, 1010 + 4);
        DUE.is("hour 4", x.hours(0), 1 << 4);
        Due.tray(x, 0, 2010 + 1);
        DUE.is("from 5 on", x.hours(0), 0x3e0);
        Due.tray(x, 0, 2010 + 2);
        DUE.is("not so worn", x.hours(0), 0);
        Due.tray(x, 0, 12010 + 3);
        DUE.is("always", x.hours(0), 1023);
        Due.tray(x, 0, 12010 + 3, 2010 + 1, 1010 + 7);
        DUE.is("all three", x.hours(0), 1 << 7);
        Due.tray(x, 0, 2010 + 1, 1010 + 3);
        DUE.is("not both", x.hours(0), 0);
        Due.tray(x, 0, 10010 + 4);
        DUE.is("the first not the lesser one", x.hours(0), 0);
        Due.tray(x, 0, 1110 + 4);
        DUE.is("no road from where it is", x.hours(0), 0);
        Due.tray(x, 0, 99999);
        DUE.is("no such people", x.hours(0), 0);
        Due.tray(x, 0, 12010 + 3, 12100 + 3, 12010 + 3, 12100 + 3, 12010 + 3, 12100 + 3, 12010 + 3, 12100 + 3);
        DUE.is("each from now", x.hours(0), 1023);
        x.quarrel(1, 2);
        DUE.is("quarrelled now", x.hours(0), 0);
        toldCodes(Due.of(CLOCK));
    }

    private static void toldCodes(CoinPairs x) {
        DUE.is("no such tray", x.hours(4), -2);
        DUE.is("no such tray", x.hours(-1), -2);
        DUE.is("missing", x.hours(3), -6);
        x.numbers(3, 3, 0);
        DUE.is("no number", x.hours(3), -4);
        Due.tray(x, 3, -1, 1, 1, 1, 1, 1, 1, 1, 1);
        DUE.is("nine numbers", x.hours(3), -4);
        Due.tray(x, 3, -1);
        DUE.is("below 0", x.hours(3), -3);
        Due.tray(x, 3, 1, 100000);
        DUE.is("above", x.hours(3), -3);
        Due.tray(x, 3, 12013 + (1L << 32));
        DUE.is("far above", x.hours(3), -3);
    }

    private static void attempt() {
        CoinPairs x = Due.of(CLOCK);
        Due.tray(x, 0, 12010 + 3);
        DUE.is("0 and 1 tell each hour", x.attempt(0, 0, 1), 1);
        x.quarrel(0, 1);
        DUE.is("0 and 2 tell half", x.attempt(0, 0, 1), 2);
        x.quarrel(0, 2);
        DUE.is("no one tells anything", x.attempt(0, 0, 1), 1);
        DUE.is("no road", x.attempt(0, 0, 0), 1);
        x = Due.of(CLOCK);
        Due.tray(x, 0, 1010 + 4);
        DUE.is("one hour", x.attempt(0, 0, 1), 1);
        Due.tray(x, 0, 2010 + 9);
        DUE.is("no hour", x.attempt(0, 0, 1), -1);
        x = Due.of("valley places 2 hour 3;road 0 1 long 1;person at 0 strong 1;person at 0 strong 2;person at 0 strong 4;"
            + "coin at 0 weight 0 worth 0;wears:if strong = 6 then hour else 0 end;");
        Due.tray(x, 0, 1010);
        DUE.is("1 and 2", x.attempt(0, 0, 1), 12);
    }

    private static void attemptCodes() {
        CoinPairs x = Due.of(CLOCK);
        DUE.is("no such tray", x.attempt(4, 0, 1), -2);
        DUE.is("no such coin, ahead of missing", x.attempt(0, 2, 1), -2);
        DUE.is("no such place, ahead of missing", x.attempt(0, 0, 2), -2);
        DUE.is("missing", x.attempt(0, 0, 1), -6);
        x.numbers(0, 0, 0);
        DUE.is("no number", x.attempt(0, 0, 1), -4);
        x.numbers(0, 0, 9);
        x.write(0, 0, -1);
        DUE.is("nine numbers, ahead of below 0", x.attempt(0, 0, 1), -4);
        Due.tray(x, 0, -1);
        DUE.is("below 0", x.attempt(0, 0, 1), -3);
        x = Due.of("valley places 2 hour 0;road 0 1 long 1;person at 0 strong 1;coin at 0 weight 0 worth 0;");
        Due.tray(x, 0, 1011);
        DUE.is("one person", x.attempt(0, 0, 1), -1);
        DUE.is("one person, no such place", x.attempt(0, 0, 2), -2);
    }
}
