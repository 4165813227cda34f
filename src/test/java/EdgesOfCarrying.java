/** Boundary cases of promises 5 to 14: what is told of a valley, who can carry what, and the plain deeds. */
final class EdgesOfCarrying {
    private static final int MIN = Integer.MIN_VALUE;
    private static final int MAX = Integer.MAX_VALUE;

    /** As many of all as may be. */
    private static final String FULL = Told.head(6, 9) + Told.roads(0, 1, 1, 1, 2, 1, 2, 3, 1, 3, 4, 1, 0, 1, 2, 0, 1, 3, 0, 1, 4,
        0, 1, 5, 5, 4, 9) + Told.alike(7, 1) + Told.people(5, 9) + Told.quarrels(0, 7, 7, 6)
        + Told.coins(0, 1, 1, 0, 1, 1, 0, 1, 1, 5, 9, 8);

    private final Edges t;

    private EdgesOfCarrying(Edges t) {
        this.t = t;
    }

    static void all(Edges t) {
        EdgesOfCarrying e = new EdgesOfCarrying(t);
        e.person();
        e.coin();
        e.road();
        e.far();
        e.why();
        e.whyOrder();
        e.withoutLaws();
        e.worn();
        e.words();
        e.kept();
        e.severalRoads();
        e.bearers();
        e.carry();
        e.carryRefused();
        e.quarrel();
        e.hour();
    }

    /** Why two can't carry by a law may, at hour 6, far 9, strong 9, weight 50, along a road that is 4 long. */
    static int why(String law) {
        return of("may:" + law + ";").why(0, 1, 0, 1);
    }

    /** How much more it would be worn by a law wears; the weaker one of the two is 2 strong. */
    static int worn(String law) {
        return of("may:1=1;wears:" + law + ";").worn(0, 1, 0, 1);
    }

    private static CoinPairs of(String laws) {
        return Due.of(Told.head(3, 6) + Told.roads(0, 1, 4, 1, 2, 5) + Told.people(0, 2, 2, 7) + Told.coins(0, 50, 1) + laws);
    }

    private static CoinPairs full() {
        return Due.of(FULL);
    }

    private static CoinPairs four() {
        return Due.of(ValleyTest.FOUR);
    }

    /** Two people, two places, a road, a coin, and what else is told. */
    static CoinPairs two(int strong, int length, int weight, String more) {
        return Due.of(Told.head(2, 0) + Told.roads(0, 1, length) + Told.alike(2, strong) + Told.coins(0, weight, 0) + more);
    }

    // ---- promises 5 to 8

    private void person() {
        String of = "Of a person, what 0: PLACE, 1: how strong, 2: with whom it has quarrelled, as bits.";
        t.edge(5, of, "the last one of eight", () -> {
            CoinPairs x = full();
            t.is("person(7, 0)", x.person(7, 0), 5);
            t.is("person(7, 1)", x.person(7, 1), 9);
            t.is("person(7, 2)", x.person(7, 2), 1 + 64);
        });
        t.edge(5, of, "the first one, who has quarrelled with the last one", () -> {
            CoinPairs x = full();
            t.is("person(0, 0)", x.person(0, 0), 0);
            t.is("person(0, 1)", x.person(0, 1), 1);
            t.is("person(0, 2)", x.person(0, 2), 128);
        });
        t.edge(5, of, "who has quarrelled with nobody, and with all", () -> {
            CoinPairs x = full();
            t.is("person(3, 2)", x.person(3, 2), 0);
            for (int q = 0; q < 8; q++) {
                x.quarrel(3, q);
            }
            t.is("then person(3, 2)", x.person(3, 2), 255 - 8);
            t.is("then person(7, 2)", x.person(7, 2), 1 + 64 + 8);
        });
        String no = "-2.";
        for (int p : new int[] {8, -1, MAX, MIN}) {
            t.edge(5, no, "person " + p, () -> t.refused("person", -2, EdgesOfCarrying::full, x -> x.person(p, 0)));
        }
        for (int what : new int[] {3, -1, MAX, MIN}) {
            t.edge(5, no, "what is " + what, () -> t.refused("person", -2, EdgesOfCarrying::full, x -> x.person(0, what)));
        }
        t.edge(5, no, "one more than there are", () -> t.is("person(4, 0)", four().person(4, 0), -2));
        t.edge(5, no, "nobody is there", () -> t.is("person(0, 2)", new CoinPairs().person(0, 2), -2));
    }

    private void coin() {
        String of = "Of a COIN, what 0: PLACE, 1: weight, 2: worth, 3: how WORN.";
        t.edge(6, of, "the last one of four", () -> {
            CoinPairs x = full();
            t.is("carry", x.carry(5, 7, 3, 4), 9);
            t.is("coin(3, 0)", x.coin(3, 0), 4);
            t.is("coin(3, 1)", x.coin(3, 1), 9);
            t.is("coin(3, 2)", x.coin(3, 2), 8);
            t.is("coin(3, 3)", x.coin(3, 3), 9);
        });
        t.edge(6, of, "the first one, others being carried", () -> {
            CoinPairs x = full();
            x.carry(5, 7, 3, 4);
            t.is("coin(0, 0)", x.coin(0, 0), 0);
            t.is("coin(0, 3)", x.coin(0, 3), 0);
        });
        t.edge(6, "each COIN is WORN 0 at first.", "all four", () -> {
            CoinPairs x = full();
            for (int c = 0; c < 4; c++) {
                t.is("coin(" + c + ", 3)", x.coin(c, 3), 0);
            }
        });
        t.edge(6, of, "worn beyond 9, one carrying after another", () -> {
            CoinPairs x = full();
            for (int i = 0; i < 20; i++) {
                x.carry(5, 7, 3, i % 2 == 0 ? 4 : 5);
            }
            t.is("coin(3, 3)", x.coin(3, 3), 180);
            t.is("coin(3, 0)", x.coin(3, 0), 5);
        });
        String no = "-2.";
        for (int c : new int[] {4, -1, MAX, MIN}) {
            t.edge(6, no, "coin " + c, () -> t.refused("coin", -2, EdgesOfCarrying::full, x -> x.coin(c, 0)));
        }
        for (int what : new int[] {4, -1, MAX, MIN}) {
            t.edge(6, no, "what is " + what, () -> t.refused("coin", -2, EdgesOfCarrying::full, x -> x.coin(0, what)));
        }
        t.edge(6, no, "one more than there are", () -> t.is("coin(2, 0)", four().coin(2, 0), -2));
        t.edge(6, no, "none is there", () -> t.is("coin(0, 3)", new CoinPairs().coin(0, 3), -2));
    }

    private void road() {
        String of = "Of a road, what 0: the first PLACE, 1: the second one, 2: how long.";
        t.edge(7, of, "the last one of nine, as it was told", () -> {
            CoinPairs x = full();
            t.is("road(8, 0)", x.road(8, 0), 5);
            t.is("road(8, 1)", x.road(8, 1), 4);
            t.is("road(8, 2)", x.road(8, 2), 9);
        });
        t.edge(7, of, "the first one", () -> {
            CoinPairs x = full();
            t.is("road(0, 0)", x.road(0, 0), 0);
            t.is("road(0, 1)", x.road(0, 1), 1);
            t.is("road(0, 2)", x.road(0, 2), 1);
        });
        String no = "-2.";
        for (int r : new int[] {9, -1, MAX, MIN}) {
            t.edge(7, no, "road " + r, () -> t.refused("road", -2, EdgesOfCarrying::full, x -> x.road(r, 0)));
        }
        for (int what : new int[] {3, -1, MAX, MIN}) {
            t.edge(7, no, "what is " + what, () -> t.refused("road", -2, EdgesOfCarrying::full, x -> x.road(0, what)));
        }
        t.edge(7, no, "one more than there are", () -> t.is("road(3, 0)", four().road(3, 0), -2));
        t.edge(7, no, "none is there", () -> t.is("road(0, 2)", new CoinPairs().road(0, 2), -2));
    }

    private void far() {
        String from = "How FAR from one PLACE to another one (0: to itself).";
        t.edge(8, from, "to itself, roads or none", () -> {
            CoinPairs x = four();
            t.is("far(0, 0)", x.far(0, 0), 0);
            t.is("far(3, 3)", x.far(3, 3), 0);
        });
        String least = "FAR from one PLACE to another one: the least of all roads' lengths added by some way (99: there is none).";
        t.edge(8, least, "there is none", () -> {
            CoinPairs x = four();
            t.is("far(0, 3)", x.far(0, 3), 99);
            t.is("far(3, 0)", x.far(3, 0), 99);
        });
        t.edge(8, least, "by a way of more roads", () -> {
            CoinPairs x = four();
            t.is("far(0, 2)", x.far(0, 2), 5);
            t.is("far(2, 0)", x.far(2, 0), 5);
        });
        t.edge(8, least, "by one road that is as long as two others", () -> t.is("far(0, 2)",
            Due.of(Told.head(3, 0) + Told.roads(0, 1, 2, 1, 2, 3, 0, 2, 5)).far(0, 2), 5));
        t.edge(8, least, "by the shortest of several roads", () -> t.is("far(1, 0)",
            Due.of(Told.head(2, 0) + Told.roads(0, 1, 5, 1, 0, 2, 0, 1, 9)).far(1, 0), 2));
        t.edge(8, least, "the farthest that can be", () -> {
            CoinPairs x = Due.of(Told.head(6, 0) + Told.roads(5, 3, 9, 3, 1, 9, 1, 0, 9, 0, 2, 9, 2, 4, 9));
            t.is("far(5, 4)", x.far(5, 4), 45);
            t.is("far(4, 5)", x.far(4, 5), 45);
        });
        String no = "-2.";
        for (int k : new int[] {4, -1, MAX, MIN}) {
            t.edge(8, no, "from place " + k, () -> t.refused("far", -2, EdgesOfCarrying::four, x -> x.far(k, 0)));
            t.edge(8, no, "to place " + k, () -> t.refused("far", -2, EdgesOfCarrying::four, x -> x.far(0, k)));
            t.edge(8, no, "from and to place " + k, () -> t.refused("far", -2, EdgesOfCarrying::four, x -> x.far(k, k)));
        }
    }

    // ---- promise 9

    private void why() {
        String why = "Why two can't CARRY a COIN to a PLACE now (0: they can).";
        t.edge(9, why, "they can, whoever is told first", () -> {
            t.is("why(0, 1, 0, 1)", four().why(0, 1, 0, 1), 0);
            t.is("why(1, 0, 0, 1)", four().why(1, 0, 0, 1), 0);
        });
        t.edge(9, why, "nothing is done by it", () -> t.refused("why", 0, EdgesOfCarrying::four, x -> x.why(0, 1, 0, 1)));
        t.edge(9, why, "now: from where it is now, with quarrels and the hour of now", () -> {
            CoinPairs x = two(1, 1, 0, "may:hour=3;");
            t.is("at hour 0", x.why(0, 1, 0, 1), 4);
            x.hour(3);
            t.is("at hour 3", x.why(0, 1, 0, 1), 0);
            x.quarrel(0, 1);
            t.is("quarrelled", x.why(0, 1, 0, 1), 3);
            x.quarrel(0, 1);
            x.carry(0, 1, 0, 1);
            t.is("it is there", x.why(0, 1, 0, 1), 2);
            t.is("and back", x.why(0, 1, 0, 0), 0);
        });
        String one = "Why not: 1 no such person (both one), COIN, PLACE, HOUR.";
        for (int n : new int[] {4, -1, MAX, MIN}) {
            t.edge(9, one, "first person " + n, () -> t.is("why", four().why(n, 1, 0, 1), 1));
            t.edge(9, one, "second person " + n, () -> t.is("why", four().why(0, n, 0, 1), 1));
            t.edge(9, one, "place " + n, () -> t.is("why", four().why(0, 1, 0, n), 1));
        }
        t.edge(9, one, "both one", () -> t.is("why(1, 1, 0, 1)", four().why(1, 1, 0, 1), 1));
        for (int n : new int[] {2, -1, MAX, MIN}) {
            t.edge(9, one, "coin " + n, () -> t.is("why", four().why(0, 1, n, 1), 1));
        }
        t.edge(9, one, "nobody and nothing is there", () -> t.is("why", new CoinPairs().why(0, 1, 0, 0), 1));
        t.edge(9, one, "the last person, coin and place can be", () -> t.is("why(5, 7, 3, 4)", full().why(5, 7, 3, 4), 0));
        String two = "2 no road leads there from where it is.";
        t.edge(9, two, "none at all", () -> t.is("why(0, 1, 0, 3)", four().why(0, 1, 0, 3), 2));
        t.edge(9, two, "a way of two roads", () -> t.is("why(0, 1, 0, 2)",
            Due.of(Told.head(3, 0) + Told.roads(0, 1, 1, 1, 2, 1) + Told.alike(2, 9) + Told.coins(0, 0, 0)).why(0, 1, 0, 2), 2));
        t.edge(9, two, "to where it is", () -> t.is("why(0, 1, 0, 0)", four().why(0, 1, 0, 0), 2));
        t.edge(9, "3 they have quarrelled.", "told and begun, either way round", () -> {
            CoinPairs x = four();
            t.is("told", x.why(0, 2, 0, 1), 3);
            t.is("told, the other way round", x.why(2, 0, 0, 1), 3);
            x.quarrel(1, 0);
            t.is("begun", x.why(0, 1, 0, 1), 3);
            x.quarrel(0, 1);
            t.is("made up", x.why(0, 1, 0, 1), 0);
        });
        t.edge(9, "4 the law may.", "told, and without one", () -> {
            t.is("told", why("1=2"), 4);
            t.is("without one", four().why(0, 3, 0, 1), 4);
        });
    }

    /** Each reason ahead of all later ones. */
    private void whyOrder() {
        String order = "Why not: 1 no such person (both one), COIN, PLACE, HOUR. 2 no road leads there from where it is. 3 they have quarrelled. 4 the law may.";
        t.edge(9, order, "1 ahead of 2, 3, 4", () -> {
            CoinPairs x = two(0, 1, 9, "quarrel 0 1;");
            t.is("no such person, to where it is", x.why(0, 2, 0, 0), 1);
            t.is("both one, to where it is", x.why(0, 0, 0, 0), 1);
            t.is("no such coin, quarrelled", x.why(0, 1, 1, 1), 1);
            t.is("no such place, quarrelled", x.why(0, 1, 0, 2), 1);
        });
        t.edge(9, order, "2 ahead of 3, 4", () -> t.is("why", two(0, 1, 9, "quarrel 0 1;").why(0, 1, 0, 0), 2));
        t.edge(9, order, "3 ahead of 4", () -> t.is("why", two(0, 1, 9, "quarrel 0 1;").why(0, 1, 0, 1), 3));
        t.edge(9, order, "4 alone", () -> t.is("why", two(0, 1, 9, "").why(0, 1, 0, 1), 4));
    }

    private void withoutLaws() {
        String may = "Two people CARRY a COIN along a road from its PLACE to the one at the other end, if they haven't quarrelled, and the law may holds (without one: if they are together no less strong than its weight).";
        t.edge(9, may, "just as strong", () -> t.is("6 and 6 of 12", two(6, 1, 12, "").why(0, 1, 0, 1), 0));
        t.edge(9, may, "one less strong", () -> t.is("6 and 6 of 13", two(6, 1, 13, "").why(0, 1, 0, 1), 4));
        t.edge(9, may, "strong 0, weight 0", () -> t.is("0 and 0 of 0", two(0, 1, 0, "").why(0, 1, 0, 1), 0));
        t.edge(9, may, "strong 0, weight 1", () -> t.is("0 and 0 of 1", two(0, 1, 1, "").why(0, 1, 0, 1), 4));
        t.edge(9, may, "the strongest two", () -> {
            t.is("9 and 9 of 18", two(9, 1, 18, "").why(0, 1, 0, 1), 0);
            t.is("9 and 9 of 19", two(9, 1, 19, "").why(0, 1, 0, 1), 4);
        });
        t.edge(9, may, "with a law, weight is nothing", () -> t.is("0 and 0 of 99", two(0, 1, 99, "may:1=1;").why(0, 1, 0, 1), 0));
        t.edge(9, "People live where they do, wherever COINS are.", "far is reckoned from where the coin is, homes stay", () -> {
            CoinPairs x = two(1, 4, 0, "wears:far;");
            t.is("from home", x.carry(0, 1, 0, 1), 0);
            t.is("person(0, 0)", x.person(0, 0), 0);
            t.is("from 4 away, both", x.carry(0, 1, 0, 0), 8);
        });
    }

    // ---- promise 10

    private void worn() {
        String more = "How much more it would be WORN by it.";
        t.edge(10, more, "nothing is done by it", () -> t.refused("worn", 2, EdgesOfCarrying::four, x -> x.worn(0, 1, 0, 1)));
        t.edge(10, more, "how much it is worn already adds nothing", () -> {
            CoinPairs x = two(1, 9, 0, "");
            x.carry(0, 1, 0, 1);
            t.is("worn", x.worn(0, 1, 0, 0), 9);
        });
        String rim = "Its rim is WORN by as much more as the law wears tells, 0 at least, 9 at most (without one: as the road is long);";
        t.edge(10, rim, "the law tells 0", () -> t.is("0", worn("0"), 0));
        t.edge(10, rim, "the law tells -1", () -> t.is("0-1", worn("0-1"), 0));
        t.edge(10, rim, "the law tells the least that can be", () -> t.is("-1,000,000", worn("0-999*999*999"), 0));
        t.edge(10, rim, "the law tells 9", () -> t.is("9", worn("9"), 9));
        t.edge(10, rim, "the law tells 10", () -> t.is("10", worn("10"), 9));
        t.edge(10, rim, "the law tells the most that can be", () -> t.is("1,000,000", worn("999*999*999"), 9));
        t.edge(10, rim, "without one, 1 long", () -> t.is("worn", two(1, 1, 0, "").worn(0, 1, 0, 1), 1));
        t.edge(10, rim, "without one, 9 long", () -> t.is("worn", two(1, 9, 0, "").worn(0, 1, 0, 1), 9));
        String no = "-2: the people, the COIN, the PLACE;";
        for (int n : new int[] {4, -1, MAX, MIN}) {
            t.edge(10, no, "first person " + n, () -> t.refused("worn", -2, EdgesOfCarrying::four, x -> x.worn(n, 1, 0, 1)));
            t.edge(10, no, "second person " + n, () -> t.refused("worn", -2, EdgesOfCarrying::four, x -> x.worn(0, n, 0, 1)));
            t.edge(10, no, "coin " + n, () -> t.refused("worn", -2, EdgesOfCarrying::four, x -> x.worn(0, 1, n, 1)));
            t.edge(10, no, "place " + n, () -> t.refused("worn", -2, EdgesOfCarrying::four, x -> x.worn(0, 1, 0, n)));
        }
        t.edge(10, no, "both one", () -> t.refused("worn", -2, EdgesOfCarrying::four, x -> x.worn(1, 1, 0, 1)));
        t.edge(10, no, "ahead of -5", () -> t.is("both one, to where it is", four().worn(1, 1, 0, 0), -2));
        String cant = "-5: they can't.";
        t.edge(10, cant, "no road", () -> t.refused("worn", -5, EdgesOfCarrying::four, x -> x.worn(0, 1, 0, 3)));
        t.edge(10, cant, "to where it is", () -> t.refused("worn", -5, EdgesOfCarrying::four, x -> x.worn(0, 1, 0, 0)));
        t.edge(10, cant, "quarrelled", () -> t.refused("worn", -5, EdgesOfCarrying::four, x -> x.worn(0, 2, 0, 1)));
        t.edge(10, cant, "the law may", () -> t.refused("worn", -5, EdgesOfCarrying::four, x -> x.worn(0, 3, 0, 1)));
    }

    private void words() {
        String words = "In both laws: strong: how strong both are together; weight: the COIN's; far: how FAR both live from its PLACE, added; long: of the road; hour: the HOUR.";
        t.edge(10, words, "strong, 0 and 18", () -> {
            t.is("0", two(0, 1, 0, "wears:if strong = 0 then 3 else 4 end;").worn(0, 1, 0, 1), 3);
            t.is("18", two(9, 1, 0, "wears:if strong = 18 then 3 else 4 end;").worn(0, 1, 0, 1), 3);
        });
        t.edge(10, words, "weight, 0 and 99", () -> {
            t.is("0", two(0, 1, 0, "may:weight=0;").why(0, 1, 0, 1), 0);
            t.is("99", two(0, 1, 99, "may:weight=99;").why(0, 1, 0, 1), 0);
        });
        t.edge(10, words, "far, both live where it is", () -> t.is("0", two(0, 1, 0, "may:far=0;").why(0, 1, 0, 1), 0));
        t.edge(10, words, "far, one can't come there", () -> t.is("99 and 4", Due.of(Told.head(3, 0) + Told.roads(0, 1, 4)
            + Told.people(2, 1, 1, 1) + Told.coins(0, 0, 0) + "may:far=103;").why(0, 1, 0, 1), 0));
        t.edge(10, words, "far, neither can come there", () -> t.is("99 and 99", Due.of(Told.head(3, 0) + Told.roads(0, 1, 4)
            + Told.people(2, 1, 2, 1) + Told.coins(0, 0, 0) + "may:far=198;").why(0, 1, 0, 1), 0));
        t.edge(10, words, "far by the least way, from its place and not to where it comes", () -> {
            CoinPairs x = Due.of(Told.head(3, 0) + Told.roads(0, 1, 2, 1, 2, 3, 0, 2, 7) + Told.people(2, 1, 2, 1)
                + Told.coins(0, 0, 0) + "may:far=10;");
            t.is("why", x.why(0, 1, 0, 1), 0);
        });
        t.edge(10, words, "long, 1 and 9", () -> {
            t.is("1", two(0, 1, 0, "may:long=1;").why(0, 1, 0, 1), 0);
            t.is("9", two(0, 9, 0, "may:long=9;").why(0, 1, 0, 1), 0);
        });
        t.edge(10, words, "hour, 0 and 9, that of now", () -> {
            CoinPairs x = two(0, 1, 0, "wears:hour;");
            t.is("0", x.worn(0, 1, 0, 1), 0);
            x.hour(9);
            t.is("9", x.worn(0, 1, 0, 1), 9);
        });
        String lesser = "In wears lesser: how strong the weaker one is.";
        t.edge(10, lesser, "the first or the second one", () -> {
            CoinPairs x = Due.of(Told.head(2, 0) + Told.roads(0, 1, 1) + Told.people(0, 3, 0, 8) + Told.coins(0, 0, 0) + "wears:lesser;");
            t.is("the first", x.worn(0, 1, 0, 1), 3);
            t.is("the second", x.worn(1, 0, 0, 1), 3);
        });
        t.edge(10, lesser, "both are as strong", () -> t.is("6", two(6, 1, 0, "wears:lesser;").worn(0, 1, 0, 1), 6));
        t.edge(10, lesser, "0", () -> t.is("0", two(0, 1, 0, "wears:lesser;").worn(0, 1, 0, 1), 0));
    }

    private void kept() {
        String kept = "Each + - * is kept from -1,000,000 to 1,000,000; if tells the one SUM, if the TRUTH holds, else the other one.";
        String million = "(999*999+999+999+1)";
        t.edge(10, kept, "just a million", () -> t.is("999,999 + 1", why(million + "-999*999=999+999+1"), 0));
        t.edge(10, kept, "a million and one", () -> t.is("+", why(million + "+1=" + million), 0));
        t.edge(10, kept, "one less than a million", () -> t.is("-", why(million + "-1=" + million), 4));
        t.edge(10, kept, "a product above", () -> {
            t.is("1001 times 999", why("(999+2)*999=" + million + "-1"), 0);
            t.is("1001 times 1000", why("(999+2)*(999+1)=" + million), 0);
            t.is("a million times a million", why(million + "*" + million + "=" + million), 0);
        });
        t.edge(10, kept, "just a million below", () -> t.is("-", why("0-" + million + "+999*999+999+999+1=0"), 0));
        t.edge(10, kept, "a million and one below", () -> t.is("-", why("0-" + million + "-1=0-" + million), 0));
        t.edge(10, kept, "one less than a million below", () -> t.is("+", why("0-" + million + "+1=0-" + million), 4));
        t.edge(10, kept, "a product below", () -> {
            t.is("a million times -1", why(million + "*(0-1)=0-" + million), 0);
            t.is("a million times -2", why(million + "*(0-2)=0-" + million), 0);
            t.is("a million times minus a million", why(million + "*(0-" + million + ")=0-" + million), 0);
            t.is("both below", why("(0-" + million + ")*(0-" + million + ")=" + million), 0);
        });
        t.edge(10, kept, "each of them, so what comes behind starts from there", () -> {
            t.is("a million and five, less a million", worn(million + "+5-" + million + "+2"), 2);
            t.is("twice a million less a million, twice", why(million + "*2-" + million + "=0"), 0);
        });
        t.edge(10, kept, "if: the truth holds", () -> t.is("if", worn("if 1=1 then 3 else 4 end"), 3));
        t.edge(10, kept, "if: it doesn't", () -> t.is("if", worn("if 1=2 then 3 else 4 end"), 4));
        t.edge(10, kept, "if as one of several", () -> t.is("if", worn("1+if 1=2 then 9 else 2 end*3"), 7));
    }

    private void severalRoads() {
        String first = "If several roads join two PLACES, the first by which they may is taken.";
        String roads = Told.head(2, 0) + Told.roads(0, 1, 8, 1, 0, 3, 0, 1, 1) + Told.people(0, 9, 0, 4, 0, 0) + Told.coins(0, 0, 0);
        t.edge(10, first, "the first one of all", () -> t.is("worn", Due.of(roads + "may:strong>long;").worn(0, 1, 0, 1), 8));
        t.edge(10, first, "the second one, told the other way round",
            () -> t.is("worn", Due.of(roads + "may:strong>long;").worn(1, 2, 0, 1), 3));
        t.edge(10, first, "the last one", () -> t.is("worn", Due.of(roads + "may:long<2;").worn(0, 1, 0, 1), 1));
        t.edge(10, first, "none of them", () -> t.is("why", Due.of(roads + "may:long=5;").why(0, 1, 0, 1), 4));
        t.edge(10, first, "none of nine", () -> t.is("why", Due.of(Told.head(2, 0) + Told.roads(0, 1, 8).repeat(9) + Told.alike(2, 9)
            + Told.coins(0, 0, 0) + "may:long=5;").why(0, 1, 0, 1), 4));
        t.edge(10, first, "the last one of nine", () -> t.is("worn", Due.of(Told.head(2, 0) + Told.roads(0, 1, 8).repeat(8)
            + Told.roads(0, 1, 5) + Told.alike(2, 9) + Told.coins(0, 0, 0) + "may:long=5;").worn(0, 1, 0, 1), 5));
        t.edge(10, first, "its own length is what is long in wears",
            () -> t.is("worn", Due.of(roads + "may:long<8;wears:long+1;").worn(0, 1, 0, 1), 4));
        t.edge(10, first, "also without laws, whichever is shorter", () -> t.is("worn", Due.of(roads).worn(0, 1, 0, 1), 8));
    }

    // ---- promise 11

    private void bearers() {
        String many = "How many pairs can CARRY a COIN to a PLACE now.";
        t.edge(11, many, "nobody is there", () -> t.is("bearers(0, 1)",
            Due.of(Told.head(2, 0) + Told.roads(0, 1, 1) + Told.coins(0, 0, 0)).bearers(0, 1), 0));
        t.edge(11, many, "one person", () -> t.is("bearers(0, 1)",
            Due.of(Told.head(2, 0) + Told.roads(0, 1, 1) + Told.alike(1, 9) + Told.coins(0, 0, 0)).bearers(0, 1), 0));
        t.edge(11, many, "all of eight", () -> t.is("bearers(0, 1)",
            Due.of(Told.head(2, 0) + Told.roads(0, 1, 1, 0, 1, 2) + Told.alike(8, 9) + Told.coins(0, 18, 0)).bearers(0, 1), 28));
        t.edge(11, many, "each pair of eight, all others having quarrelled", () -> {
            for (int p = 0; p < 8; p++) {
                for (int q = p + 1; q < 8; q++) {
                    t.is("bearers, " + p + " and " + q, Due.of(Told.head(2, 0) + Told.roads(0, 1, 1) + Told.friends(8, p, q)
                        + Told.coins(0, 0, 0)).bearers(0, 1), 1);
                }
            }
        });
        t.edge(11, many, "but for those who have quarrelled, and who are too weak", () -> {
            CoinPairs x = four();
            t.is("bearers(0, 1)", x.bearers(0, 1), 2);
            x.quarrel(0, 2);
            t.is("made up", x.bearers(0, 1), 3);
        });
        t.edge(11, many, "where it is", () -> t.is("bearers(0, 0)", four().bearers(0, 0), 0));
        t.edge(11, many, "no road", () -> t.is("bearers(0, 3)", four().bearers(0, 3), 0));
        t.edge(11, many, "worn by 0 they can, too", () -> t.is("bearers", two(1, 1, 0, "wears:0;").bearers(0, 1), 1));
        String no = "-2.";
        for (int c : new int[] {2, -1, MAX, MIN}) {
            t.edge(11, no, "coin " + c, () -> t.refused("bearers", -2, EdgesOfCarrying::four, x -> x.bearers(c, 1)));
        }
        for (int to : new int[] {4, -1, MAX, MIN}) {
            t.edge(11, no, "place " + to, () -> t.refused("bearers", -2, EdgesOfCarrying::four, x -> x.bearers(0, to)));
        }
    }

    // ---- promises 12 to 14

    private void carry() {
        String more = "To CARRY: how much more it is WORN.";
        t.edge(12, more, "by 0: it is carried all the same", () -> {
            CoinPairs x = two(1, 1, 0, "wears:0;");
            t.is("carry", x.carry(0, 1, 0, 1), 0);
            t.is("coin(0, 0)", x.coin(0, 0), 1);
            t.is("count(6)", x.count(6), 1);
            t.is("count(8)", x.count(8), 1);
        });
        t.edge(12, more, "by 9", () -> {
            CoinPairs x = two(1, 1, 0, "wears:99;");
            t.is("carry", x.carry(0, 1, 0, 1), 9);
            t.is("coin(0, 3)", x.coin(0, 3), 9);
        });
        t.edge(12, more, "the other one first", () -> {
            CoinPairs x = four();
            t.is("carry", x.carry(1, 0, 0, 1), 2);
            t.is("coin(0, 0)", x.coin(0, 0), 1);
        });
        t.edge(12, more, "how much more, not how much", () -> {
            CoinPairs x = four();
            x.carry(0, 1, 0, 1);
            t.is("carry", x.carry(0, 1, 0, 2), 3);
            t.is("coin(0, 3)", x.coin(0, 3), 5);
        });
    }

    private void carryRefused() {
        String codes = "-11 to -14.";
        for (int n : new int[] {4, -1, MAX, MIN}) {
            t.edge(12, codes, "-11, first person " + n, () -> t.refused("carry", -11, EdgesOfCarrying::worked, x -> x.carry(n, 1, 0, 2)));
            t.edge(12, codes, "-11, second person " + n, () -> t.refused("carry", -11, EdgesOfCarrying::worked, x -> x.carry(0, n, 0, 2)));
            t.edge(12, codes, "-11, coin " + n, () -> t.refused("carry", -11, EdgesOfCarrying::worked, x -> x.carry(0, 1, n, 2)));
            t.edge(12, codes, "-11, place " + n, () -> t.refused("carry", -11, EdgesOfCarrying::worked, x -> x.carry(0, 1, 0, n)));
        }
        t.edge(12, codes, "-11, both one", () -> t.refused("carry", -11, EdgesOfCarrying::worked, x -> x.carry(1, 1, 0, 2)));
        t.edge(12, codes, "-12, no road", () -> t.refused("carry", -12, EdgesOfCarrying::worked, x -> x.carry(0, 1, 0, 3)));
        t.edge(12, codes, "-12, where it is", () -> t.refused("carry", -12, EdgesOfCarrying::worked, x -> x.carry(0, 1, 0, 1)));
        t.edge(12, codes, "-13, quarrelled", () -> t.refused("carry", -13, EdgesOfCarrying::worked, x -> x.carry(2, 0, 0, 2)));
        t.edge(12, codes, "-14, the law may", () -> t.refused("carry", -14, EdgesOfCarrying::worked, x -> x.carry(0, 3, 0, 2)));
        t.edge(12, codes, "in their order", () -> {
            CoinPairs x = two(0, 1, 9, "quarrel 0 1;");
            t.is("11 ahead of 12", x.carry(0, 0, 0, 0), -11);
            t.is("12 ahead of 13", x.carry(0, 1, 0, 0), -12);
            t.is("13 ahead of 14", x.carry(0, 1, 0, 1), -13);
        });
    }

    /** A valley in which all there is to be changed has been changed. */
    static CoinPairs worked() {
        CoinPairs x = four();
        x.carry(0, 1, 0, 1);
        x.hour(7);
        x.quarrel(1, 3);
        Due.tray(x, 0, 10102, 14, 1);
        Due.tray(x, 1, -1, 2);
        x.numbers(2, 0, 40);
        x.image(1);
        x.carry(0, 1, 0, 2);
        x.carry(0, 1, 0, 1);
        Due.feed(x, "valley");
        return x;
    }

    private void quarrel() {
        String then = "To QUARREL: 1 if they have quarrelled then, else 0.";
        t.edge(13, then, "they hadn't", () -> {
            CoinPairs x = four();
            t.is("quarrel(0, 1)", x.quarrel(0, 1), 1);
            t.is("person(0, 2)", x.person(0, 2), 6);
            t.is("person(1, 2)", x.person(1, 2), 1);
        });
        t.edge(13, then, "they had, by the text", () -> {
            CoinPairs x = four();
            t.is("quarrel(2, 0)", x.quarrel(2, 0), 0);
            t.is("count(5)", x.count(5), 0);
        });
        String made = "To QUARREL: two people have quarrelled then, or, if they had, have made it up.";
        t.edge(13, made, "begun, made up, begun, either way round", () -> {
            CoinPairs x = full();
            t.is("quarrel(1, 2)", x.quarrel(1, 2), 1);
            t.is("quarrel(2, 1)", x.quarrel(2, 1), 0);
            t.is("quarrel(1, 2)", x.quarrel(1, 2), 1);
            t.is("calls to be undone", x.count(8), 3);
        });
        t.edge(13, made, "the last two of eight", () -> {
            CoinPairs x = full();
            t.is("quarrel(6, 7)", x.quarrel(6, 7), 0);
            t.is("person(7, 2)", x.person(7, 2), 1);
        });
        String no = "-11.";
        for (int p : new int[] {4, -1, MAX, MIN}) {
            t.edge(13, no, "first person " + p, () -> t.refused("quarrel", -11, EdgesOfCarrying::worked, x -> x.quarrel(p, 0)));
            t.edge(13, no, "second person " + p, () -> t.refused("quarrel", -11, EdgesOfCarrying::worked, x -> x.quarrel(0, p)));
        }
        t.edge(13, no, "both one", () -> t.refused("quarrel", -11, EdgesOfCarrying::worked, x -> x.quarrel(1, 1)));
        t.edge(13, no, "both one who isn't there", () -> t.refused("quarrel", -11, EdgesOfCarrying::worked, x -> x.quarrel(4, 4)));
        t.edge(13, no, "one person is there", () -> t.is("quarrel(0, 1)",
            Due.of(Told.head(1, 0) + Told.alike(1, 1)).quarrel(0, 1), -11));
    }

    private void hour() {
        String what = "Another HOUR (0 to 9): what it was.";
        t.edge(14, what, "0", () -> {
            CoinPairs x = four();
            t.is("hour(0)", x.hour(0), 2);
            t.is("count(4)", x.count(4), 0);
        });
        t.edge(14, what, "9", () -> {
            CoinPairs x = four();
            t.is("hour(9)", x.hour(9), 2);
            t.is("count(4)", x.count(4), 9);
            t.is("then", x.hour(1), 9);
        });
        t.edge(14, "have made it up. Another HOUR.", "the one that it is: a deed, too", () -> {
            CoinPairs x = four();
            t.is("hour(2)", x.hour(2), 2);
            t.is("count(4)", x.count(4), 2);
            t.is("count(8)", x.count(8), 1);
        });
        String no = "-11.";
        for (int n : new int[] {10, -1, MAX, MIN}) {
            t.edge(14, no, "hour " + n, () -> t.refused("hour", -11, EdgesOfCarrying::worked, x -> x.hour(n)));
        }
    }
}
