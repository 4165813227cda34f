/** Promises 39 to 42: by turns, and chances. */
public final class GamesTest {
    private static final Due DUE = new Due("GamesTest");

    private static final String TWO = "person at 0 strong 9;person at 0 strong 9;";

    public static void main(String[] args) {
        forces();
        forcesWithin();
        chance();
        chanceByLaw();
        DUE.end();
    }

    private static void force(CoinPairs x, int c, int to, int within, int best) {
        DUE.is("forces(" + c + ", " + to + ")", x.forces(c, to), within);
        DUE.is("best(" + c + ", " + to + ")", x.best(c, to), best);
    }

    private static void forces() {
        CoinPairs x = Due.of("valley places 4 hour 0;road 0 1 long 1;road 1 2 long 1;" + TWO
            + "coin at 0 weight 0 worth 0;");
        force(x, 0, 0, 0, -1);
        force(x, 0, 1, 1, 1);
        force(x, 0, 2, -1, -1);
        force(x, 0, 3, -1, -1);
        force(x, 1, 0, -2, -2);
        force(x, -1, 0, -2, -2);
        force(x, 0, 4, -2, -2);
        force(x, 0, -1, -2, -2);
        x.quarrel(0, 1);
        force(x, 0, 1, -1, -1);
    }

    private static void forcesWithin() {
        CoinPairs x = Due.of("valley places 4 hour 0;road 0 1 long 1;road 0 2 long 1;road 1 3 long 1;road 2 3 long 1;" + TWO
            + "coin at 0 weight 0 worth 0;may:far = 0 or far = 2;");
        force(x, 0, 3, -1, -1);
        // From 1 and 2 the coin can only go on to 3, or lie: the other one can't help it.
        x = Due.of("valley places 4 hour 0;road 0 1 long 5;road 0 2 long 5;road 1 3 long 6;road 2 3 long 6;" + TWO
            + "coin at 0 weight 0 worth 0;coin at 1 weight 0 worth 0;may:far = 0 or long = 6;");
        force(x, 0, 3, 3, 1);
        force(x, 1, 3, 1, 3);
        force(x, 0, 1, 1, 1);
        force(x, 1, 0, -1, -1);
        force(x, 1, 2, -1, -1);
        x = Due.of("valley places 4 hour 0;road 0 2 long 5;road 0 1 long 6;road 1 2 long 5;road 2 3 long 6;" + TWO
            + "coin at 0 weight 0 worth 0;may:far = 0 or long = 6;");
        force(x, 0, 3, 3, 2);
        force(x, 0, 2, 1, 2);
    }

    private static void likely(CoinPairs x, int c, int to, int above, int below, int by) {
        DUE.is("chance(" + c + ", " + to + ", 0)", x.chance(c, to, 0), above);
        DUE.is("chance(" + c + ", " + to + ", 1)", x.chance(c, to, 1), below);
        DUE.is("by(" + c + ", " + to + ")", x.by(c, to), by);
    }

    private static void chance() {
        CoinPairs x = Due.of("valley places 6 hour 0;road 0 1 long 2;road 1 2 long 5;road 0 2 long 6;road 2 3 long 9;"
            + "road 3 4 long 9;road 3 2 long 7;" + TWO + "coin at 0 weight 0 worth 0;coin at 4 weight 0 worth 0;");
        likely(x, 0, 0, 1, 1, 0);
        likely(x, 0, 1, 4, 5, 1);
        likely(x, 0, 2, 2, 5, 1);
        likely(x, 0, 3, 3, 25, 2);
        likely(x, 0, 4, 3, 250, 3);
        likely(x, 0, 5, 0, 1, -1);
        likely(x, 1, 0, 3, 250, 3);
        likely(x, 1, 4, 1, 1, 0);
        likely(x, 2, 0, -2, -2, -2);
        likely(x, -1, 0, -2, -2, -2);
        likely(x, 0, 6, -2, -2, -2);
        likely(x, 0, -1, -2, -2, -2);
        DUE.is("what 2", x.chance(0, 0, 2), -2);
        DUE.is("what -1", x.chance(0, 0, -1), -2);
        x = Due.of("valley places 6 hour 0;road 0 1 long 9;road 1 2 long 9;road 2 3 long 9;road 3 4 long 9;road 4 5 long 9;"
            + "road 0 1 long 7;" + TWO + "coin at 0 weight 0 worth 0;");
        likely(x, 0, 5, 3, 100000, 5);
        x = Due.of("valley places 3 hour 0;road 0 1 long 2;road 1 2 long 1;road 0 2 long 4;" + TWO
            + "coin at 0 weight 0 worth 0;");
        likely(x, 0, 2, 18, 25, 2);
    }

    /** The first road by which they may is not the one that is likeliest. */
    private static void chanceByLaw() {
        String roads = "valley places 2 hour 0;road 0 1 long 8;road 0 1 long 3;road 1 0 long 1;";
        CoinPairs x = Due.of(roads + TWO + "coin at 0 weight 0 worth 0;may:long > 2;");
        likely(x, 0, 1, 7, 10, 1);
        DUE.is("carried by the first", x.worn(0, 1, 0, 1), 8);
        x.quarrel(0, 1);
        likely(x, 0, 1, 0, 1, -1);
        likely(x, 0, 0, 1, 1, 0);
        x = Due.of(roads + "person at 0 strong 9;coin at 0 weight 0 worth 0;");
        likely(x, 0, 1, 0, 1, -1);
        x = Due.of(roads + "person at 0 strong 1;person at 0 strong 1;person at 1 strong 5;coin at 0 weight 0 worth 0;"
            + "may:strong * 1 > long;");
        likely(x, 0, 1, 9, 10, 1);
    }
}
