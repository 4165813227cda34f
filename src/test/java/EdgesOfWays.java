/** Boundary cases of promises 19 to 23: ways of coins, and payments. */
final class EdgesOfWays {
    private static final int MIN = Integer.MIN_VALUE;
    private static final int MAX = Integer.MAX_VALUE;

    /** Places 0 to 5 in a row. */
    private static final String LINE = Told.head(6, 0) + Told.roads(0, 1, 1, 1, 2, 1, 2, 3, 1, 3, 4, 1, 4, 5, 1);

    /** Places 0 to 3 in a ring, 4 alone; coin 0 at 0, coin 1 at 4. */
    private static final String RING = Told.head(5, 0) + Told.roads(0, 1, 1, 1, 2, 1, 2, 3, 1, 3, 0, 1) + Told.alike(3, 3)
        + Told.coins(0, 6, 4, 4, 0, 9);

    /** Three places on each side, each joined to the three of the other side; all pairs of eight. */
    private static final String NINE_ROADS = Told.head(6, 0) + Told.roads(0, 3, 1, 0, 4, 1, 0, 5, 1, 1, 3, 1, 1, 4, 1, 1, 5, 1,
        2, 3, 1, 2, 4, 1, 2, 5, 1) + Told.alike(8, 9) + Told.coins(0, 0, 0);

    private final Edges t;

    private EdgesOfWays(Edges t) {
        this.t = t;
    }

    static void all(Edges t) {
        EdgesOfWays e = new EdgesOfWays(t);
        e.soonest();
        e.soonestRefused();
        e.way();
        e.firstOfLikeRows();
        e.wayRefused();
        e.rows();
        e.rowsRefused();
        e.reach();
        e.pays();
        e.paysOfLikeOnes();
        e.paysAway();
        e.paysRefused();
    }

    private static CoinPairs ring() {
        return Due.of(RING);
    }

    private static CoinPairs line(String more) {
        return Due.of(LINE + Told.alike(2, 3) + Told.coins(0, 6, 0) + more);
    }

    // ---- promise 19

    private void soonest() {
        String fewest = "The fewest CARRYINGS of a ROW by which a COIN comes to a PLACE (0: it is there).";
        t.edge(19, fewest, "it is there", () -> t.is("soonest(0, 0)", ring().soonest(0, 0), 0));
        t.edge(19, fewest, "it is there, and nobody who could carry it", () -> t.is("soonest(0, 0)",
            Due.of(Told.head(1, 0) + Told.coins(0, 99, 0)).soonest(0, 0), 0));
        t.edge(19, fewest, "one", () -> t.is("soonest(0, 3)", ring().soonest(0, 3), 1));
        t.edge(19, fewest, "the most that can be", () -> {
            t.is("soonest(0, 5)", line("").soonest(0, 5), 5);
            CoinPairs x = Due.of(Told.head(6, 0) + Told.roads(5, 3, 1, 3, 1, 1, 1, 0, 1, 0, 2, 1, 2, 4, 1) + Told.alike(2, 3)
                + Told.coins(5, 0, 0));
            t.is("soonest(0, 4)", x.soonest(0, 4), 5);
        });
        t.edge(19, fewest, "fewest carryings, not the shortest way", () -> t.is("soonest(0, 2)", Due.of(Told.head(3, 0)
            + Told.roads(0, 1, 1, 1, 2, 1, 0, 2, 9) + Told.alike(2, 9) + Told.coins(0, 0, 0)).soonest(0, 2), 1));
        String row = "A ROW: CARRYINGS from now on (told as DEEDS), one behind the other, nothing else being done.";
        t.edge(19, row, "from now on: from where it is now", () -> {
            CoinPairs x = line("");
            x.carry(0, 1, 0, 1);
            t.is("soonest(0, 5)", x.soonest(0, 5), 4);
            t.is("soonest(0, 0)", x.soonest(0, 0), 1);
        });
        t.edge(19, row, "one behind the other: by each law from where it is then", () -> {
            t.is("far from both homes it can't go on", line("may:far<4;").soonest(0, 3), -1);
            t.is("to there it can", line("may:far<4;").soonest(0, 2), 2);
        });
        t.edge(19, row, "nothing else being done: the hour stays, quarrels aren't made up", () -> {
            CoinPairs x = line("may:hour=5;");
            t.is("at hour 0", x.soonest(0, 1), -1);
            x.hour(5);
            t.is("at hour 5", x.soonest(0, 5), 5);
            x.quarrel(0, 1);
            t.is("quarrelled", x.soonest(0, 1), -1);
        });
        String cant = "NONE: it can't;";
        t.edge(19, cant, "no way leads there", () -> t.is("soonest(0, 4)", ring().soonest(0, 4), -1));
        t.edge(19, cant, "too heavy", () -> t.is("soonest(0, 1)",
            Due.of(LINE + Told.alike(2, 3) + Told.coins(0, 7, 0)).soonest(0, 1), -1));
        t.edge(19, cant, "nobody, one person", () -> {
            t.is("nobody", Due.of(LINE + Told.coins(0, 0, 0)).soonest(0, 1), -1);
            t.is("one", Due.of(LINE + Told.alike(1, 9) + Told.coins(0, 0, 0)).soonest(0, 1), -1);
        });
        t.edge(19, cant, "one way but not back", () -> {
            CoinPairs x = Due.of(LINE + Told.alike(2, 3) + Told.coins(0, 0, 0, 1, 0, 0) + "may:far=0;");
            t.is("soonest(0, 1)", x.soonest(0, 1), 1);
            t.is("soonest(1, 0)", x.soonest(1, 0), -1);
        });
    }

    private void soonestRefused() {
        for (int c : new int[] {2, -1, MAX, MIN}) {
            t.edge(19, "-2.", "coin " + c, () -> t.refused("soonest", -2, EdgesOfWays::ring, x -> x.soonest(c, 0)));
        }
        for (int to : new int[] {5, -1, MAX, MIN}) {
            t.edge(19, "-2.", "place " + to, () -> t.refused("soonest", -2, EdgesOfWays::ring, x -> x.soonest(0, to)));
        }
        t.edge(19, "-2.", "ahead of NONE", () -> t.is("soonest(2, 4)", ring().soonest(2, 4), -2));
    }

    // ---- promise 20

    private void way() {
        String ith = "The i-th DEED of it, of like ROWS the first.";
        t.edge(20, ith, "the first and the last of five", () -> {
            CoinPairs x = line("");
            t.is("way(0, 5, 0)", x.way(0, 5, 0), 10101);
            t.is("way(0, 5, 4)", x.way(0, 5, 4), 10105);
        });
        t.edge(20, ith, "all of them, performed, bring it there", () -> {
            CoinPairs x = line("");
            Due.tray(x, 0, x.way(0, 5, 0), x.way(0, 5, 1), x.way(0, 5, 2), x.way(0, 5, 3), x.way(0, 5, 4));
            t.is("perform", x.perform(0), 5);
            t.is("coin(0, 0)", x.coin(0, 0), 5);
        });
        t.edge(20, ith, "by each pair of eight, all others having quarrelled", () -> {
            for (int p = 0; p < 8; p++) {
                for (int q = p + 1; q < 8; q++) {
                    CoinPairs x = Due.of(LINE + Told.friends(8, p, q) + Told.coins(0, 0, 0));
                    t.is("way(0, 1, 0)", x.way(0, 1, 0), 10001 + 1000 * p + 100 * q);
                }
            }
        });
        t.edge(20, ith, "to place 0", () -> {
            CoinPairs x = Due.of(LINE + Told.alike(2, 3) + Told.coins(2, 0, 0));
            t.is("way(0, 0, 0)", x.way(0, 0, 0), 10101);
            t.is("way(0, 0, 1)", x.way(0, 0, 1), 10100);
        });
        t.edge(20, ith, "the last coin, the last two people", () -> t.is("way(3, 1, 0)", Due.of(LINE + Told.friends(8, 6, 7)
            + Told.coins(0, 0, 0).repeat(4)).way(3, 1, 0), 16731));
        String none = "NONE: not so many, it can't;";
        t.edge(20, none, "one more than there are", () -> t.is("way(0, 5, 5)", line("").way(0, 5, 5), -1));
        t.edge(20, none, "the greatest int", () -> t.is("way", line("").way(0, 5, MAX), -1));
        t.edge(20, none, "it is there", () -> t.is("way(0, 0, 0)", ring().way(0, 0, 0), -1));
        t.edge(20, none, "it can't", () -> t.is("way(0, 4, 0)", ring().way(0, 4, 0), -1));
    }

    private void firstOfLikeRows() {
        String first = "Of like ROWS the first: by DEEDS as numbers.";
        t.edge(20, first, "of two places the lesser one", () -> {
            t.is("way(0, 2, 0)", ring().way(0, 2, 0), 10101);
            t.is("way(0, 2, 1)", ring().way(0, 2, 1), 10102);
        });
        t.edge(20, first, "people tell more than the place", () -> {
            CoinPairs x = Due.of(Told.head(4, 0) + Told.roads(0, 1, 9, 0, 2, 1, 1, 3, 1, 2, 3, 1) + Told.people(0, 1, 0, 1, 0, 9)
                + Told.coins(0, 0, 0) + "may:strong>long or long=1;");
            t.is("10102 is ahead of 10201", x.way(0, 3, 0), 10102);
            t.is("then", x.way(0, 3, 1), 10103);
        });
        t.edge(20, first, "of the first person's pairs the one with the lesser other one", () -> {
            CoinPairs x = ring();
            x.quarrel(0, 1);
            t.is("0 and 2", x.way(0, 1, 0), 10201);
            x.quarrel(0, 2);
            t.is("1 and 2", x.way(0, 1, 0), 11201);
        });
        t.edge(20, first, "none but fewest: no lesser place that is as far", () -> {
            CoinPairs x = Due.of(Told.head(3, 0) + Told.roads(0, 1, 1, 1, 2, 1, 2, 0, 1) + Told.alike(2, 1) + Told.coins(0, 0, 0));
            t.is("way(0, 2, 0)", x.way(0, 2, 0), 10102);
            t.is("way(0, 2, 1)", x.way(0, 2, 1), -1);
        });
        t.edge(20, first, "none but rows that go on to the end", () -> {
            CoinPairs x = Due.of(Told.head(4, 0) + Told.roads(0, 1, 1, 0, 2, 1, 2, 3, 1) + Told.alike(2, 1) + Told.coins(0, 0, 0));
            t.is("way(0, 3, 0)", x.way(0, 3, 0), 10102);
        });
    }

    private void wayRefused() {
        String below = "-3: i is below 0.";
        t.edge(20, below, "-1", () -> t.refused("way", -3, EdgesOfWays::ring, x -> x.way(0, 2, -1)));
        t.edge(20, below, "the least int", () -> t.refused("way", -3, EdgesOfWays::ring, x -> x.way(0, 2, MIN)));
        t.edge(20, below, "ahead of NONE", () -> t.is("way(0, 4, -1)", ring().way(0, 4, -1), -3));
        String no = "it can't; -2;";
        for (int c : new int[] {2, -1, MAX, MIN}) {
            t.edge(20, no, "coin " + c, () -> t.refused("way", -2, EdgesOfWays::ring, x -> x.way(c, 0, 0)));
        }
        for (int to : new int[] {5, -1, MAX, MIN}) {
            t.edge(20, no, "place " + to, () -> t.refused("way", -2, EdgesOfWays::ring, x -> x.way(0, to, 0)));
        }
        t.edge(20, no, "ahead of -3", () -> {
            t.is("way(2, 0, -1)", ring().way(2, 0, -1), -2);
            t.is("way(0, 5, -1)", ring().way(0, 5, -1), -2);
        });
    }

    // ---- promise 21

    private void rows() {
        String many = "How many ROWS of just n CARRYINGS (0 to 8) of a COIN there are behind which it is at a PLACE (by others or another pair it is another ROW).";
        t.edge(21, many, "0: where it is, and elsewhere", () -> {
            t.is("rows(0, 0, 0)", ring().rows(0, 0, 0), 1);
            t.is("rows(0, 1, 0)", ring().rows(0, 1, 0), 0);
        });
        t.edge(21, many, "1: by each pair", () -> {
            t.is("rows(0, 1, 1)", ring().rows(0, 1, 1), 3);
            t.is("rows(0, 0, 1)", ring().rows(0, 0, 1), 0);
            t.is("rows(0, 2, 1)", ring().rows(0, 2, 1), 0);
        });
        t.edge(21, many, "2: two ways, each by nine", () -> t.is("rows(0, 2, 2)", ring().rows(0, 2, 2), 18));
        t.edge(21, many, "just n: not fewer", () -> t.is("rows(0, 1, 2)", ring().rows(0, 1, 2), 0));
        t.edge(21, many, "8", () -> t.is("rows(0, 1, 8)", Due.of(Told.head(3, 0) + Told.roads(0, 1, 1, 1, 2, 1, 2, 0, 1)
            + Told.alike(2, 1) + Told.coins(0, 0, 0)).rows(0, 1, 8), 85));
        t.edge(21, many, "8, the most that can be", () -> t.is("rows(0, 2, 8)", Due.of(NINE_ROADS).rows(0, 2, 8),
            2187L * 377801998336L));
        t.edge(21, many, "several roads join two places: one row each pair", () -> t.is("rows(0, 1, 1)", Due.of(Told.head(2, 0)
            + Told.roads(0, 1, 1, 0, 1, 2, 1, 0, 3) + Told.alike(3, 1) + Told.coins(0, 0, 0)).rows(0, 1, 1), 3));
        t.edge(21, many, "asked twice, and of another coin between", () -> {
            CoinPairs x = Due.of(Told.head(3, 0) + Told.roads(0, 1, 1, 1, 2, 1) + Told.alike(3, 3) + Told.coins(0, 0, 0, 1, 0, 0));
            t.is("rows(0, 2, 2)", x.rows(0, 2, 2), 9);
            t.is("rows(1, 2, 1)", x.rows(1, 2, 1), 3);
            t.is("rows(0, 2, 2)", x.rows(0, 2, 2), 9);
            t.is("rows(0, 1, 0)", x.rows(0, 1, 0), 0);
        });
        t.edge(21, many, "it can't", () -> t.is("rows(0, 4, 8)", ring().rows(0, 4, 8), 0));
        t.edge(21, many, "nobody", () -> {
            CoinPairs x = Due.of(LINE + Told.coins(0, 0, 0));
            t.is("rows(0, 0, 0)", x.rows(0, 0, 0), 1);
            t.is("rows(0, 0, 8)", x.rows(0, 0, 8), 0);
        });
    }

    private void rowsRefused() {
        String no = "-2; -3.";
        for (int n : new int[] {9, -1, MAX, MIN}) {
            t.edge(21, no, n + " carryings", () -> t.refused("rows", -3, EdgesOfWays::ring, x -> x.rows(0, 0, n)));
        }
        for (int c : new int[] {2, -1, MAX, MIN}) {
            t.edge(21, no, "coin " + c, () -> t.refused("rows", -2, EdgesOfWays::ring, x -> x.rows(c, 0, 0)));
        }
        for (int to : new int[] {5, -1, MAX, MIN}) {
            t.edge(21, no, "place " + to, () -> t.refused("rows", -2, EdgesOfWays::ring, x -> x.rows(0, to, 0)));
        }
        t.edge(21, no, "-2 ahead of -3", () -> {
            t.is("rows(2, 0, 9)", ring().rows(2, 0, 9), -2);
            t.is("rows(0, 5, -1)", ring().rows(0, 5, -1), -2);
        });
    }

    // ---- promise 22

    private void reach() {
        String places = "PLACES to which a COIN can come (its own, too).";
        t.edge(22, places, "none but its own", () -> {
            t.is("reach(1)", ring().reach(1), 16);
            t.is("nobody is there", Due.of(LINE + Told.coins(0, 0, 0)).reach(0), 1);
        });
        t.edge(22, places, "all six", () -> t.is("reach(0)", line("").reach(0), 63));
        t.edge(22, places, "from the last place back", () -> t.is("reach(0)",
            Due.of(LINE + Told.alike(2, 3) + Told.coins(5, 0, 0)).reach(0), 63));
        t.edge(22, places, "as far as the law lets it", () -> t.is("reach(0)", line("may:far<4;").reach(0), 1 + 2 + 4));
        t.edge(22, places, "its own, too, where it can't come back", () -> {
            CoinPairs x = Due.of(LINE + Told.alike(2, 3) + Told.coins(1, 0, 0) + "may:far=2;");
            t.is("reach(0)", x.reach(0), 1 + 2 + 4);
        });
        t.edge(22, "Sets of people, PLACES, COINS: as bits.", "place k is bit k", () -> t.is("reach(0)", ring().reach(0), 15));
        for (int c : new int[] {2, -1, MAX, MIN}) {
            t.edge(22, "-2.", "coin " + c, () -> t.refused("reach", -2, EdgesOfWays::ring, x -> x.reach(c)));
        }
        t.edge(22, "-2.", "no coin is there", () -> t.is("reach(0)", new CoinPairs().reach(0), -2));
    }

    // ---- promise 23

    private void paid(CoinPairs x, int k, int sum, int... due) {
        for (int what = 0; what < 4; what++) {
            t.is("pays(" + k + ", " + sum + ", " + what + ")", x.pays(k, sum, what), due[what]);
        }
    }

    /** Coins worth 3, 5, 8 at places 0, 1, 2 of a row, one worth 2 at place 3, alone. */
    private static CoinPairs purse() {
        return Due.of(Told.head(4, 0) + Told.roads(0, 1, 1, 1, 2, 1) + Told.alike(2, 9)
            + Told.coins(0, 0, 3, 1, 0, 5, 2, 0, 8, 3, 0, 2));
    }

    private void pays() {
        String pays = "PAYING a sum (0 to 999) at a PLACE, what 0: just so much, how many CARRYINGS, 1: which COINS are there then, 2: at least so much, how many, 3: which.";
        t.edge(23, pays, "0, there is nothing there", () -> paid(Due.of(LINE + Told.coins(0, 0, 5)), 1, 0, 0, 0, 0, 0));
        t.edge(23, pays, "0, there are no coins at all", () -> paid(new CoinPairs(), 0, 0, 0, 0, 0, 0));
        t.edge(23, pays, "0, and one is there: just so much wants it away", () -> paid(purse(), 0, 0, 1, 0, 0, 1));
        t.edge(23, pays, "1, there are no coins at all", () -> paid(new CoinPairs(), 0, 1, -1, -1, -1, -1));
        t.edge(23, pays, "what is there already", () -> paid(purse(), 0, 3, 0, 1, 0, 1));
        t.edge(23, pays, "one less than what is there", () -> paid(purse(), 0, 2, -1, -1, 0, 1));
        t.edge(23, pays, "one more than what is there", () -> paid(purse(), 0, 4, -1, -1, 1, 3));
        t.edge(23, pays, "all that can come there", () -> paid(purse(), 0, 16, 3, 7, 3, 7));
        t.edge(23, pays, "one more than all that can come there", () -> paid(purse(), 0, 17, -1, -1, -1, -1));
        t.edge(23, pays, "all four, the greatest worth", () -> {
            CoinPairs x = Due.of(LINE + Told.alike(2, 9) + Told.coins(5, 0, 99).repeat(4));
            paid(x, 0, 396, 20, 15, 20, 15);
            paid(x, 0, 397, -1, -1, -1, -1);
        });
        t.edge(23, pays, "999", () -> paid(purse(), 0, 999, -1, -1, -1, -1));
        t.edge(23, pays, "the last place", () -> paid(purse(), 3, 2, 0, 8, 0, 8));
        t.edge(23, "NONE: it can't be;", "no coins are worth that together", () -> paid(purse(), 0, 1, -1, -1, 0, 1));
        t.edge(23, "NONE: it can't be;", "those that are can't come there", () -> paid(purse(), 3, 5, -1, -1, -1, -1));
        t.edge(23, pays, "nothing is done", () -> t.refused("pays", 3, EdgesOfWays::purse, x -> x.pays(0, 16, 0)));
    }

    private void paysOfLikeOnes() {
        String fewest = "PAYING a sum at a PLACE: the fewest CARRYINGS behind which all COINS that are there then are together worth just so much (or at least so much); of like ones the least set of COINS there";
        t.edge(23, fewest, "fewer carryings are ahead of a lesser set", () -> {
            CoinPairs x = Due.of(LINE + Told.alike(2, 9) + Told.coins(3, 0, 5, 1, 0, 5));
            paid(x, 0, 5, 1, 2, 1, 2);
        });
        t.edge(23, fewest, "of like ones the least set", () -> {
            CoinPairs x = Due.of(LINE + Told.alike(2, 9) + Told.coins(1, 0, 5).repeat(4));
            paid(x, 0, 5, 1, 1, 1, 1);
            paid(x, 0, 10, 2, 3, 2, 3);
            paid(x, 0, 15, 3, 7, 3, 7);
        });
        t.edge(23, fewest, "of like ones the least set, not the least first coin", () -> {
            CoinPairs x = Due.of(LINE + Told.alike(2, 9) + Told.coins(1, 0, 1, 1, 0, 2, 1, 0, 3, 1, 0, 4));
            paid(x, 0, 5, 2, 6, 1 + 1, 6);
        });
        t.edge(23, fewest, "of like ones the least set, a coin worth 0 left out or let lie", () -> {
            CoinPairs x = Due.of(LINE + Told.alike(2, 9) + Told.coins(0, 0, 0, 0, 0, 7));
            paid(x, 0, 7, 0, 3, 0, 3);
            paid(x, 0, 0, 1, 1, 0, 3);
        });
        t.edge(23, fewest, "at least so much: fewer carryings for more worth", () -> {
            CoinPairs x = Due.of(LINE + Told.alike(2, 9) + Told.coins(2, 0, 5, 1, 0, 9));
            paid(x, 0, 5, 2, 1, 1, 2);
        });
    }

    private void paysAway() {
        String away = "(COINS that are there now and not in the set are CARRIED away, by one CARRYING each; if one can't be, it can't be so).";
        t.edge(23, away, "one is carried away", () -> paid(purse(), 0, 5, 2, 2, 1, 3));
        t.edge(23, away, "asked of one place and of another one", () -> {
            CoinPairs x = purse();
            paid(x, 0, 0, 1, 0, 0, 1);
            paid(x, 1, 0, 1, 0, 0, 2);
            paid(x, 0, 8, 1, 3, 1, 3);
            paid(x, 2, 8, 0, 4, 0, 4);
        });
        t.edge(23, away, "all four are", () -> {
            CoinPairs x = Due.of(LINE + Told.alike(2, 9) + Told.coins(0, 0, 9).repeat(4));
            paid(x, 0, 0, 4, 0, 0, 15);
        });
        t.edge(23, away, "one can't be: it is too heavy", () -> {
            CoinPairs x = Due.of(LINE + Told.alike(2, 1) + Told.coins(0, 3, 4, 0, 2, 5));
            paid(x, 0, 4, 1, 1, 0, 3);
            paid(x, 0, 5, -1, -1, 0, 3);
            paid(x, 0, 0, -1, -1, 0, 3);
        });
        t.edge(23, away, "one can't be: no road", () -> paid(purse(), 3, 0, -1, -1, 0, 8));
        t.edge(23, away, "one that can't be and is in the set stays", () -> paid(purse(), 3, 2, 0, 8, 0, 8));
    }

    private void paysRefused() {
        String no = "-2: the PLACE, what; -3.";
        for (int k : new int[] {4, -1, MAX, MIN}) {
            t.edge(23, no, "place " + k, () -> t.refused("pays", -2, EdgesOfWays::purse, x -> x.pays(k, 0, 0)));
            t.edge(23, no, "what is " + k, () -> t.refused("pays", -2, EdgesOfWays::purse, x -> x.pays(0, 0, k)));
        }
        for (int sum : new int[] {1000, -1, MAX, MIN}) {
            t.edge(23, no, "sum " + sum, () -> t.refused("pays", -3, EdgesOfWays::purse, x -> x.pays(0, sum, 0)));
        }
        t.edge(23, no, "-2 ahead of -3", () -> {
            t.is("place", purse().pays(4, 1000, 0), -2);
            t.is("what", purse().pays(0, -1, 4), -2);
        });
        t.edge(23, no, "-3 ahead of NONE, whatever what is", () -> paid(new CoinPairs(), 0, 1000, -3, -3, -3, -3));
    }
}
