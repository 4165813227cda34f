/** Promises 19 to 23: ways of coins, and payments. */
public final class WaysTest {
    private static final Due DUE = new Due("WaysTest");

    /** Places 0 to 3 in a ring, 4 behind 3, 5 alone; three alike people. */
    private static final String RING = "valley places 6 hour 0;road 0 1 long 1;road 1 2 long 1;road 2 3 long 1;"
        + "road 3 0 long 1;road 3 4 long 1;person at 0 strong 3;person at 0 strong 3;person at 0 strong 3;"
        + "coin at 0 weight 6 worth 4;coin at 5 weight 0 worth 9;";

    public static void main(String[] args) {
        soonest();
        way();
        wayByOthers();
        rows();
        reach();
        pays();
        paysAway();
        DUE.end();
    }

    private static void soonest() {
        CoinPairs x = Due.of(RING);
        int[] due = {0, 1, 2, 1, 2, -1};
        for (int k = 0; k < 6; k++) {
            DUE.is("soonest(0, " + k + ")", x.soonest(0, k), due[k]);
        }
        DUE.is("it lies alone", x.soonest(1, 0), -1);
        DUE.is("it is there", x.soonest(1, 5), 0);
        DUE.is("no such coin", x.soonest(2, 0), -2);
        DUE.is("coin -1", x.soonest(-1, 0), -2);
        DUE.is("no such place", x.soonest(0, 6), -2);
        DUE.is("place -1", x.soonest(0, -1), -2);
        x.carry(0, 1, 0, 3);
        DUE.is("from where it is now", x.soonest(0, 4), 1);
        x.quarrel(0, 1);
        x.quarrel(0, 2);
        x.quarrel(1, 2);
        DUE.is("all have quarrelled", x.soonest(0, 4), -1);
        DUE.is("but it is there", x.soonest(0, 3), 0);
        x = Due.of("valley places 6 hour 0;road 0 1 long 1;road 1 2 long 1;road 2 3 long 1;road 3 4 long 1;road 4 5 long 1;"
            + "person at 0 strong 3;person at 0 strong 3;coin at 0 weight 6 worth 4;may:far < 9;");
        DUE.is("a long way", x.soonest(0, 5), 5);
        for (int i = 0; i < 5; i++) {
            DUE.is("on it", x.way(0, 5, i), 10101 + i);
        }
        DUE.is("its end", x.way(0, 5, 5), -1);
        x.carry(0, 1, 0, 1);
        DUE.is("one less", x.soonest(0, 5), 4);
    }

    private static void way() {
        CoinPairs x = Due.of(RING);
        DUE.is("the first place of two", x.way(0, 2, 0), 10101);
        DUE.is("then", x.way(0, 2, 1), 10102);
        DUE.is("not so many", x.way(0, 2, 2), -1);
        DUE.is("not so many", x.way(0, 2, Integer.MAX_VALUE), -1);
        DUE.is("it is there", x.way(0, 0, 0), -1);
        DUE.is("it can't", x.way(0, 5, 0), -1);
        DUE.is("below 0", x.way(0, 2, -1), -3);
        DUE.is("below 0 ahead of NONE", x.way(0, 5, -1), -3);
        DUE.is("no such coin, ahead of below 0", x.way(2, 2, -1), -2);
        DUE.is("no such place, ahead of below 0", x.way(0, 6, -1), -2);
        x.quarrel(0, 1);
        DUE.is("another pair", x.way(0, 2, 0), 10201);
    }

    /** The pair tells more than the place: 0 and 1 can only go by place 2, others by 1, too. */
    private static void wayByOthers() {
        CoinPairs x = Due.of("valley places 4 hour 0;road 0 1 long 9;road 0 2 long 1;road 1 3 long 1;road 2 3 long 1;"
            + "person at 0 strong 1;person at 0 strong 1;person at 0 strong 9;coin at 0 weight 0 worth 0;"
            + "may: strong > long or long = 1;");
        DUE.is("10102 is ahead of 10201", x.way(0, 3, 0), 10102);
        DUE.is("then", x.way(0, 3, 1), 10103);
        DUE.is("rows of both", x.rows(0, 3, 2), 2 * 3 + 3 * 3);
    }

    private static void rows() {
        CoinPairs x = Due.of(RING);
        DUE.is("none, there", x.rows(0, 0, 0), 1);
        DUE.is("none, not there", x.rows(0, 1, 0), 0);
        DUE.is("one", x.rows(0, 1, 1), 3);
        DUE.is("two ways by three pairs each time", x.rows(0, 2, 2), 18);
        DUE.is("back", x.rows(0, 0, 2), 18);
        DUE.is("odd", x.rows(0, 0, 3), 0);
        DUE.is("it can't", x.rows(0, 5, 8), 0);
        DUE.is("-3", x.rows(0, 0, -1), -3);
        DUE.is("-3", x.rows(0, 0, 9), -3);
        DUE.is("-2 ahead of -3", x.rows(2, 0, 9), -2);
        DUE.is("-2 ahead of -3", x.rows(0, 6, -1), -2);
        DUE.is("-2", x.rows(-1, 0, 0), -2);
        DUE.is("-2", x.rows(0, -1, 0), -2);
        x = Due.of("valley places 2 hour 0;road 0 1 long 1;road 1 0 long 2;" + "person at 0 strong 9;".repeat(8)
            + "coin at 0 weight 0 worth 0;");
        DUE.is("28 pairs, one road taken each", x.rows(0, 0, 8), 377801998336L);
    }

    private static void reach() {
        CoinPairs x = Due.of(RING);
        DUE.is("reach(0)", x.reach(0), 31);
        DUE.is("its own", x.reach(1), 32);
        DUE.is("no such", x.reach(2), -2);
        DUE.is("no such", x.reach(-1), -2);
        x = Due.of("valley places 3 hour 0;road 0 1 long 5;road 1 2 long 5;person at 0 strong 3;person at 0 strong 3;"
            + "coin at 0 weight 6 worth 4;coin at 1 weight 0 worth 0;coin at 2 weight 0 worth 0;may:far < 10;");
        DUE.is("not back from 1", x.reach(0), 3);
        DUE.is("not away from 1", x.reach(1), 2);
        DUE.is("too far", x.reach(2), 4);
    }

    private static void payment(CoinPairs x, int k, int sum, int... due) {
        for (int what = 0; what < 4; what++) {
            DUE.is("pays(" + k + ", " + sum + ", " + what + ")", x.pays(k, sum, what), due[what]);
        }
    }

    private static void pays() {
        CoinPairs x = Due.of("valley places 4 hour 0;road 0 1 long 1;road 1 2 long 1;person at 0 strong 9;"
            + "person at 0 strong 9;coin at 0 weight 0 worth 3;coin at 1 weight 0 worth 5;coin at 2 weight 0 worth 8;"
            + "coin at 3 weight 0 worth 2;");
        payment(x, 0, 3, 0, 1, 0, 1);
        payment(x, 0, 8, 1, 3, 1, 3);
        payment(x, 0, 5, 2, 2, 1, 3);
        payment(x, 0, 0, 1, 0, 0, 1);
        payment(x, 0, 11, 2, 5, 2, 5);
        payment(x, 0, 16, 3, 7, 3, 7);
        payment(x, 0, 2, -1, -1, 0, 1);
        payment(x, 0, 17, -1, -1, -1, -1);
        payment(x, 2, 8, 0, 4, 0, 4);
        payment(x, 1, 8, 1, 3, 1, 3);
        payment(x, 3, 2, 0, 8, 0, 8);
        payment(x, 3, 0, -1, -1, 0, 8);
        payment(x, 0, 999, -1, -1, -1, -1);
        payment(x, 0, 1000, -3, -3, -3, -3);
        payment(x, 0, -1, -3, -3, -3, -3);
        payment(x, 4, 1000, -2, -2, -2, -2);
        payment(x, -1, 0, -2, -2, -2, -2);
        DUE.is("what 4", x.pays(0, 0, 4), -2);
        DUE.is("what -1, ahead of the sum", x.pays(0, -1, -1), -2);
        payment(x, 0, 13, 4, 6, 3, 7);
    }

    private static void paysAway() {
        CoinPairs x = Due.of("valley places 2 hour 0;road 0 1 long 1;person at 0 strong 1;person at 0 strong 1;"
            + "coin at 0 weight 0 worth 3;coin at 0 weight 9 worth 4;coin at 1 weight 1 worth 3;coin at 1 weight 0 worth 0;");
        payment(x, 0, 7, 0, 3, 0, 3);
        payment(x, 0, 4, 1, 2, 0, 3);
        payment(x, 0, 3, -1, -1, 0, 3);
        payment(x, 0, 10, 1, 7, 1, 7);
        payment(x, 1, 3, 0, 12, 0, 12);
        payment(x, 1, 0, 1, 8, 0, 12);
        payment(x, 1, 6, 1, 13, 1, 13);
        x = Due.of("valley places 2 hour 0;road 0 1 long 1;person at 0 strong 1;person at 0 strong 1;"
            + "coin at 1 weight 0 worth 2;coin at 1 weight 0 worth 3;coin at 1 weight 0 worth 5;coin at 1 weight 0 worth 5;");
        payment(x, 0, 5, 1, 4, 1, 4);
        payment(x, 0, 10, 2, 12, 2, 12);
        payment(x, 0, 0, 0, 0, 0, 0);
    }
}
