/** Boundary cases of promises 34 to 38: who carried by how a rim was worn, what the hour is, whom to try. */
final class EdgesOfRims {
    private static final int MIN = Integer.MIN_VALUE;
    private static final int MAX = Integer.MAX_VALUE;

    /** A ring of three places, roads 2, 3 and 2 long, three pairs. */
    private static final String RING = Told.head(3, 0) + Told.roads(0, 1, 2, 1, 2, 3, 2, 0, 2) + Told.alike(3, 1)
        + Told.coins(0, 0, 0, 1, 0, 0);

    /** 0 and 1 wear it by the hour, 0 and 2 by 1 from hour 5 on and else by 0, 1 and 2 by 3. */
    private static final String CLOCK = Told.head(2, 4) + Told.roads(0, 1, 3) + Told.people(0, 1, 0, 2, 0, 4)
        + Told.coins(0, 0, 0) + "wears:if strong=3 then hour else if strong=5 then if hour>4 then 1 else 0 end else 3 end end;";

    /** 0 and 1 carry it by place 1 alone, 0 and 2 by place 2 alone; on to 3 it is worn by 5 or by 6. */
    private static final String FORK = Told.head(4, 0) + Told.roads(0, 1, 1, 0, 2, 2, 1, 3, 5, 2, 3, 6) + Told.people(0, 1, 0, 2, 0, 4)
        + Told.coins(0, 0, 0) + "may:strong=3 and long=1 or strong=5 and long=2 or long>2;wears:if long<3 then 0 else long end;";

    private final Edges t;

    private EdgesOfRims(Edges t) {
        this.t = t;
    }

    static void all(Edges t) {
        EdgesOfRims e = new EdgesOfRims(t);
        e.wornBy();
        e.wornByMany();
        e.wornByRefused();
        e.wornFirst();
        e.wornFirstRefused();
        e.who();
        e.whoRefused();
        e.hours();
        e.hoursRefused();
        e.attempt();
        e.attemptOfLikeOnes();
        e.attemptNone();
        e.attemptRefused();
    }

    private static CoinPairs with(String text, long... numbers) {
        CoinPairs x = Due.of(text);
        Due.tray(x, 1, numbers);
        return x;
    }

    /** A ring with an empty tray 0, trays 1 to 3 of a good one, of nine numbers, and missing. */
    private static CoinPairs trays() {
        CoinPairs x = with(RING, 2, 3);
        x.numbers(0, 0, 0);
        x.numbers(2, 0, 9);
        return x;
    }

    // ---- promise 34

    private void wornBy() {
        String many = "WORN of a COIN: how many ROWS.";
        t.edge(34, many, "there are none", () -> t.is("wornBy", with(RING, 3).wornBy(1, 0), 0));
        t.edge(34, many, "the last one of them can't be", () -> t.is("wornBy", with(RING, 2, 2, 2, 3, 9).wornBy(1, 0), 0));
        t.edge(34, many, "by each pair", () -> t.is("wornBy", with(RING, 2).wornBy(1, 0), 6));
        t.edge(34, many, "another coin, from where it is", () -> t.is("wornBy", with(RING, 3).wornBy(1, 1), 3));
        t.edge(34, many, "nobody is there", () -> t.is("wornBy",
            with(Told.head(2, 0) + Told.roads(0, 1, 1) + Told.coins(0, 0, 0), -1).wornBy(1, 0), 0));
        String worn = "WORN in a TRAY (1 to 8 numbers: how much more a COIN was WORN by one CARRYING after another from now on; NONE: not known): ROWS of CARRYINGS of it by which it is so.";
        t.edge(34, worn, "1 number", () -> t.is("wornBy", with(RING, -1).wornBy(1, 0), 6));
        t.edge(34, worn, "8 numbers", () -> t.is("wornBy", with(RING, 2, 2, 2, 2, 2, 2, 2, 2).wornBy(1, 0),
            2 * 3 * 3 * 2 * 9 * 2 * 9 * 2 * 9));
        t.edge(34, worn, "one after another", () -> {
            t.is("2, 3", with(RING, 2, 3).wornBy(1, 0), 18);
            t.is("2, 2", with(RING, 2, 2).wornBy(1, 0), 18);
            t.is("2, 3, 2", with(RING, 2, 3, 2).wornBy(1, 0), 54);
        });
        t.edge(34, worn, "not known", () -> {
            t.is("none known", with(RING, -1, -1).wornBy(1, 0), 36);
            t.is("the last known", with(RING, -1, 3).wornBy(1, 0), 18);
            t.is("the first known", with(RING, 2, -1).wornBy(1, 0), 36);
        });
        t.edge(34, worn, "how much more, not how much", () -> {
            CoinPairs x = with(RING, 2);
            x.carry(0, 1, 0, 1);
            t.is("wornBy", x.wornBy(1, 0), 3);
        });
        t.edge(34, worn, "from now on: the hour, the quarrels of now", () -> {
            CoinPairs x = with(CLOCK, 4);
            t.is("at hour 4", x.wornBy(1, 0), 1);
            x.hour(5);
            t.is("at hour 5", x.wornBy(1, 0), 0);
            x.hour(4);
            x.quarrel(0, 1);
            t.is("quarrelled", x.wornBy(1, 0), 0);
        });
        t.edge(34, worn, "worn by 0 and by 9", () -> {
            CoinPairs x = with(CLOCK, 0);
            t.is("0", x.wornBy(1, 0), 1);
            x.hour(9);
            x.write(1, 0, 9);
            t.is("9", x.wornBy(1, 0), 1);
        });
        t.edge(34, worn, "numbers of each sort, NONE in each", () -> {
            for (int sort = 0; sort < 4; sort++) {
                CoinPairs x = Due.of(RING);
                x.numbers(1, sort, 2);
                x.write(1, 0, 2);
                x.write(1, 1, -1);
                t.is("sort " + sort, x.wornBy(1, 0), 36);
            }
        });
    }

    private void wornByMany() {
        t.edge(34, "WORN of a COIN: how many ROWS.", "the most that can be", () -> {
            CoinPairs x = with(Told.head(6, 0) + Told.roads(0, 3, 1, 0, 4, 1, 0, 5, 1, 1, 3, 1, 1, 4, 1, 1, 5, 1, 2, 3, 1, 2, 4, 1,
                2, 5, 1) + Told.alike(8, 9) + Told.coins(0, 0, 0), -1, -1, -1, -1, -1, -1, -1, -1);
            t.is("8 not known", x.wornBy(1, 0), 6561L * 377801998336L);
        });
    }

    private void wornByRefused() {
        String no = "-2: the TRAY, the COIN; -6;";
        for (int tray : new int[] {4, -1, MAX, MIN}) {
            t.edge(34, no, "tray " + tray, () -> t.refused("wornBy", -2, EdgesOfRims::trays, x -> x.wornBy(tray, 0)));
        }
        for (int c : new int[] {2, -1, MAX, MIN}) {
            t.edge(34, no, "coin " + c, () -> t.refused("wornBy", -2, EdgesOfRims::trays, x -> x.wornBy(1, c)));
        }
        t.edge(34, no, "the tray is missing", () -> t.refused("wornBy", -6, EdgesOfRims::trays, x -> x.wornBy(3, 0)));
        t.edge(34, no, "-2 ahead of -6", () -> t.is("wornBy(3, 2)", trays().wornBy(3, 2), -2));
        String many = "-4: not 1 to 8 numbers;";
        t.edge(34, many, "no number", () -> t.refused("wornBy", -4, EdgesOfRims::trays, x -> x.wornBy(0, 0)));
        t.edge(34, many, "9 numbers", () -> t.refused("wornBy", -4, EdgesOfRims::trays, x -> x.wornBy(2, 0)));
        t.edge(34, many, "40 numbers", () -> t.is("wornBy", with(RING, new long[40]).wornBy(1, 0), -4));
        t.edge(34, many, "-2 ahead of -4", () -> t.is("wornBy(0, 2)", trays().wornBy(0, 2), -2));
        t.edge(34, many, "-4 ahead of -3", () -> t.is("wornBy", with(RING, 10, 0, 0, 0, 0, 0, 0, 0, 0).wornBy(1, 0), -4));
        String cant = "-3: one is not 0 to 9 nor NONE.";
        for (long v : new long[] {10, -2, 1L << 32, (1L << 32) - 1, Long.MAX_VALUE, Long.MIN_VALUE}) {
            t.edge(34, cant, "the first is " + v, () -> t.refused("wornBy", -3, () -> with(RING, v, 2), x -> x.wornBy(1, 0)));
            t.edge(34, cant, "the last is " + v, () -> t.refused("wornBy", -3, () -> with(RING, 2, v), x -> x.wornBy(1, 0)));
        }
        t.edge(34, cant, "0, 9 and NONE can be", () -> {
            t.is("0", with(RING, 0).wornBy(1, 0), 0);
            t.is("9", with(RING, 9).wornBy(1, 0), 0);
            t.is("NONE", with(RING, -1).wornBy(1, 0), 6);
        });
        t.edge(34, cant, "-2 ahead of -3", () -> t.is("wornBy(1, 2)", with(RING, 10).wornBy(1, 2), -2));
    }

    // ---- promise 35

    private void wornFirst() {
        String first = "The i-th DEED of the first of these.";
        t.edge(35, first, "the first and the last of two", () -> {
            t.is("i 0", with(RING, 2, 3).wornFirst(1, 0, 0), 10101);
            t.is("i 1", with(RING, 2, 3).wornFirst(1, 0, 1), 10102);
        });
        t.edge(35, first, "the last of eight", () -> {
            CoinPairs x = with(RING, 2, 2, 2, 2, 2, 2, 2, 2);
            t.is("i 0", x.wornFirst(1, 0, 0), 10101);
            t.is("i 6", x.wornFirst(1, 0, 6), 10101);
            t.is("i 7", x.wornFirst(1, 0, 7), 10100);
        });
        t.edge(35, first, "a later number tells where it must go", () -> {
            t.is("5", with(FORK, 0, 5).wornFirst(1, 0, 0), 10101);
            t.is("6", with(FORK, 0, 6).wornFirst(1, 0, 0), 10202);
            t.is("then", with(FORK, 0, 6).wornFirst(1, 0, 1), 10103);
            t.is("not known", with(FORK, 0, -1).wornFirst(1, 0, 0), 10101);
        });
        t.edge(35, first, "the people tell more than the place", () -> {
            CoinPairs x = Due.of(Told.head(3, 0) + Told.roads(0, 1, 9, 0, 2, 1) + Told.people(0, 1, 0, 1, 0, 9) + Told.coins(0, 0, 0)
                + "may:strong>long or long=1;");
            Due.tray(x, 1, -1);
            t.is("10102 is ahead of 10201", x.wornFirst(1, 0, 0), 10102);
        });
        t.edge(35, first, "another coin", () -> t.is("coin 1", with(RING, 3).wornFirst(1, 1, 0), 10112));
        String none = "NONE: not so many, there are none;";
        t.edge(35, none, "one more than there are numbers", () -> t.is("i 2", with(RING, 2, 3).wornFirst(1, 0, 2), -1));
        t.edge(35, none, "the greatest int", () -> t.is("i", with(RING, 2, 3).wornFirst(1, 0, MAX), -1));
        t.edge(35, none, "there are none", () -> {
            t.is("i 0", with(RING, 2, 9).wornFirst(1, 0, 0), -1);
            t.is("i 1", with(RING, 2, 9).wornFirst(1, 0, 1), -1);
            t.is("i 2", with(RING, 2, 9).wornFirst(1, 0, 2), -1);
        });
    }

    private void wornFirstRefused() {
        String as = "as wornBy();";
        for (int tray : new int[] {4, -1, MAX, MIN}) {
            t.edge(35, as, "tray " + tray, () -> t.refused("wornFirst", -2, EdgesOfRims::trays, x -> x.wornFirst(tray, 0, 0)));
        }
        for (int c : new int[] {2, -1, MAX, MIN}) {
            t.edge(35, as, "coin " + c, () -> t.refused("wornFirst", -2, EdgesOfRims::trays, x -> x.wornFirst(1, c, 0)));
        }
        t.edge(35, as, "the tray is missing", () -> t.refused("wornFirst", -6, EdgesOfRims::trays, x -> x.wornFirst(3, 0, 0)));
        t.edge(35, as, "no number", () -> t.refused("wornFirst", -4, EdgesOfRims::trays, x -> x.wornFirst(0, 0, 0)));
        t.edge(35, as, "9 numbers", () -> t.refused("wornFirst", -4, EdgesOfRims::trays, x -> x.wornFirst(2, 0, 0)));
        t.edge(35, as, "10, -2", () -> {
            t.refused("wornFirst", -3, () -> with(RING, 2, 10), x -> x.wornFirst(1, 0, 0));
            t.refused("wornFirst", -3, () -> with(RING, -2, 2), x -> x.wornFirst(1, 0, 0));
        });
        t.edge(35, as, "ahead of NONE", () -> t.is("i 2, a number 10", with(RING, 2, 10).wornFirst(1, 0, 2), -3));
        String below = "-3: also i is below 0.";
        t.edge(35, below, "-1", () -> t.refused("wornFirst", -3, EdgesOfRims::trays, x -> x.wornFirst(1, 0, -1)));
        t.edge(35, below, "the least int", () -> t.refused("wornFirst", -3, EdgesOfRims::trays, x -> x.wornFirst(1, 0, MIN)));
        t.edge(35, below, "ahead of NONE: there are none", () -> t.is("i -1", with(RING, 9).wornFirst(1, 0, -1), -3));
        t.edge(35, below, "behind -2, -6, -4", () -> {
            t.is("tray 4", trays().wornFirst(4, 0, -1), -2);
            t.is("coin 2", trays().wornFirst(1, 2, -1), -2);
            t.is("missing", trays().wornFirst(3, 0, -1), -6);
            t.is("no number", trays().wornFirst(0, 0, -1), -4);
        });
    }

    // ---- promise 36

    private void who() {
        String who = "Who can have been one of the two of the i-th CARRYING in some of these (0: there are none).";
        t.edge(36, who, "one pair", () -> {
            t.is("0 and 1", with(CLOCK, 4).who(1, 0, 0), 3);
            t.is("0 and 2", with(CLOCK, 0).who(1, 0, 0), 5);
            t.is("1 and 2", with(CLOCK, 3).who(1, 0, 0), 6);
        });
        t.edge(36, who, "all, if it is not known", () -> t.is("all", with(CLOCK, -1).who(1, 0, 0), 7));
        t.edge(36, who, "the last two of eight", () -> t.is("6 and 7", with(Told.head(2, 0) + Told.roads(0, 1, 1)
            + Told.friends(8, 6, 7) + Told.coins(0, 0, 0), 1).who(1, 0, 0), 192));
        t.edge(36, who, "in some: what comes behind it tells", () -> {
            t.is("by place 1", with(FORK, 0, 5).who(1, 0, 0), 3);
            t.is("by place 2", with(FORK, 0, 6).who(1, 0, 0), 5);
            t.is("by both", with(FORK, 0, -1).who(1, 0, 0), 7);
            t.is("and then anyone", with(FORK, 0, 6).who(1, 0, 1), 7);
            t.is("and then anyone, by place 1", with(FORK, 0, 5).who(1, 0, 1), 7);
        });
        t.edge(36, who, "from where it was then alone", () -> {
            String text = Told.head(4, 0) + Told.roads(0, 2, 1, 1, 3, 2, 2, 3, 3) + Told.people(0, 1, 0, 2, 0, 4) + Told.coins(0, 0, 0)
                + "may:far=0 and strong=3 or long=2 and strong=5 or long=3 and strong=3;";
            t.is("i 1", with(text, 1, -1).who(1, 0, 1), 3);
        });
        t.edge(36, who, "two people, the last of two carryings", () -> t.is("i 1",
            with(Told.head(2, 0) + Told.roads(0, 1, 1) + Told.alike(2, 1) + Told.coins(0, 0, 0), 1, 1).who(1, 0, 1), 3));
        t.edge(36, who, "each pair of eight, all others having quarrelled", () -> {
            for (int p = 0; p < 8; p++) {
                for (int q = p + 1; q < 8; q++) {
                    CoinPairs x = with(Told.head(2, 0) + Told.roads(0, 1, 1) + Told.friends(8, p, q) + Told.coins(0, 0, 0), -1, 1);
                    t.is(p + " and " + q, x.who(1, 0, 1), 1 << p | 1 << q);
                }
            }
        });
        t.edge(36, who, "the last of eight", () -> t.is("i 7", with(CLOCK, 0, 0, 0, 0, 0, 0, 0, 4).who(1, 0, 7), 3));
        t.edge(36, who, "there are none", () -> {
            t.is("of one", with(CLOCK, 9).who(1, 0, 0), 0);
            t.is("the last can't be", with(CLOCK, 4, 9).who(1, 0, 0), 0);
            t.is("the first can't be", with(CLOCK, 9, 4).who(1, 0, 1), 0);
        });
    }

    private void whoRefused() {
        String as = "As wornBy();";
        for (int tray : new int[] {4, -1, MAX, MIN}) {
            t.edge(36, as, "tray " + tray, () -> t.refused("who", -2, EdgesOfRims::trays, x -> x.who(tray, 0, 0)));
        }
        for (int c : new int[] {2, -1, MAX, MIN}) {
            t.edge(36, as, "coin " + c, () -> t.refused("who", -2, EdgesOfRims::trays, x -> x.who(1, c, 0)));
        }
        t.edge(36, as, "the tray is missing", () -> t.refused("who", -6, EdgesOfRims::trays, x -> x.who(3, 0, 0)));
        t.edge(36, as, "no number", () -> t.refused("who", -4, EdgesOfRims::trays, x -> x.who(0, 0, 0)));
        t.edge(36, as, "9 numbers", () -> t.refused("who", -4, EdgesOfRims::trays, x -> x.who(2, 0, 0)));
        t.edge(36, as, "10, -2", () -> {
            t.refused("who", -3, () -> with(RING, 2, 10), x -> x.who(1, 0, 0));
            t.refused("who", -3, () -> with(RING, -2, 2), x -> x.who(1, 0, 0));
        });
        String below = "-3: also i is below 0;";
        t.edge(36, below, "-1", () -> t.refused("who", -3, EdgesOfRims::trays, x -> x.who(1, 0, -1)));
        t.edge(36, below, "the least int", () -> t.refused("who", -3, EdgesOfRims::trays, x -> x.who(1, 0, MIN)));
        t.edge(36, below, "behind -2, -6, -4", () -> {
            t.is("tray 4", trays().who(4, 0, -1), -2);
            t.is("missing", trays().who(3, 0, -1), -6);
            t.is("no number", trays().who(0, 0, -1), -4);
        });
        String none = "-7: there is no such CARRYING.";
        t.edge(36, none, "one more than there are", () -> t.refused("who", -7, EdgesOfRims::trays, x -> x.who(1, 0, 2)));
        t.edge(36, none, "the greatest int", () -> t.refused("who", -7, EdgesOfRims::trays, x -> x.who(1, 0, MAX)));
        t.edge(36, none, "the last one is one", () -> t.is("i 1", trays().who(1, 0, 1), 7));
        t.edge(36, none, "behind -4 and -3", () -> {
            t.is("no number", trays().who(0, 0, 0), -4);
            t.is("i 2, a number 10", with(RING, 2, 10).who(1, 0, 2), -3);
        });
        t.edge(36, none, "also if there are no rows", () -> t.is("i 1", with(RING, 9).who(1, 0, 1), -7));
    }

    // ---- promise 37

    private void hours() {
        t.edge(37, "TOLD: HOURS, as bits.", "hour 0 is bit 0, hour 9 is bit 9", () -> {
            t.is("0", with(CLOCK, 1010).hours(1), 1);
            t.is("9", with(CLOCK, 1019).hours(1), 512);
        });
        t.edge(37, "TOLD: HOURS, as bits.", "all, and none", () -> {
            t.is("all", with(CLOCK, 12013).hours(1), 1023);
            t.is("none", with(CLOCK, 12012).hours(1), 0);
        });
        String told = "TOLD in a TRAY (1 to 8 numbers: ten times what a DEED of CARRYING is above 10000, and how much more the COIN was WORN by it, all being as it is now each time): HOURS 0 to 9 by which each can be, and it is so.";
        t.edge(37, told, "1 number: half of the hours", () -> {
            t.is("from 5 on", with(CLOCK, 2011).hours(1), 0x3e0);
            t.is("before 5", with(CLOCK, 2010).hours(1), 0x1f);
        });
        t.edge(37, told, "8 numbers", () -> {
            t.is("all so", with(CLOCK, 12013, 12013, 12013, 12013, 12013, 12013, 2011, 1017).hours(1), 128);
            t.is("the last not", with(CLOCK, 12013, 12013, 12013, 12013, 12013, 12013, 2010, 1017).hours(1), 0);
        });
        t.edge(37, told, "all being as it is now each time", () -> {
            CoinPairs x = with(CLOCK, 12013, 12013);
            t.is("twice from where it is", x.hours(1), 1023);
            x.carry(1, 2, 0, 1);
            t.is("then not from there", x.hours(1), 0);
            Due.tray(x, 1, 12003);
            t.is("but back", x.hours(1), 1023);
        });
        t.edge(37, told, "the hour that it is tells nothing", () -> {
            CoinPairs x = with(CLOCK, 1017);
            x.hour(0);
            t.is("hours", x.hours(1), 128);
            t.is("and it stays", x.count(4), 0);
        });
        t.edge(37, told, "by which each can be", () -> {
            String by = Told.head(2, 0) + Told.roads(0, 1, 5) + Told.alike(2, 1) + Told.coins(0, 0, 0) + "may:hour>3 and hour<6;";
            t.is("by law", with(by, 1015).hours(1), 16 + 32);
            CoinPairs x = with(by, 1015);
            x.quarrel(0, 1);
            t.is("quarrelled", x.hours(1), 0);
        });
        t.edge(37, told, "the first person not the lesser one", () -> {
            t.is("2 and 1", with(CLOCK, 21013).hours(1), 0);
            t.is("1 and 1", with(CLOCK, 11013).hours(1), 0);
        });
        t.edge(37, told, "no such person, coin, place; no road", () -> {
            t.is("person 3", with(CLOCK, 3013).hours(1), 0);
            t.is("coin 1", with(CLOCK, 12113).hours(1), 0);
            t.is("place 2", with(CLOCK, 12023).hours(1), 0);
            t.is("where it is", with(CLOCK, 12003).hours(1), 0);
        });
    }

    private void hoursRefused() {
        for (int tray : new int[] {4, -1, MAX, MIN}) {
            t.edge(37, "-2: the TRAY;", "tray " + tray, () -> t.refused("hours", -2, EdgesOfRims::trays, x -> x.hours(tray)));
        }
        t.edge(37, "-6;", "the tray is missing", () -> t.refused("hours", -6, EdgesOfRims::trays, x -> x.hours(3)));
        String many = "-4: not 1 to 8 numbers;";
        t.edge(37, many, "no number", () -> t.refused("hours", -4, EdgesOfRims::trays, x -> x.hours(0)));
        t.edge(37, many, "9 numbers", () -> t.refused("hours", -4, EdgesOfRims::trays, x -> x.hours(2)));
        t.edge(37, many, "-4 ahead of -3", () -> t.is("hours", with(CLOCK, -1, 0, 0, 0, 0, 0, 0, 0, 0).hours(1), -4));
        String cant = "-3: one is not 0 to 99999.";
        for (long v : new long[] {-1, 100000, (1L << 32) + 12013, Long.MAX_VALUE, Long.MIN_VALUE}) {
            t.edge(37, cant, "the first is " + v, () -> t.refused("hours", -3, () -> with(CLOCK, v, 12013), x -> x.hours(1)));
            t.edge(37, cant, "the last is " + v, () -> t.refused("hours", -3, () -> with(CLOCK, 12013, v), x -> x.hours(1)));
        }
        t.edge(37, cant, "0 and 99999 can be told", () -> {
            t.is("0", with(CLOCK, 0).hours(1), 0);
            t.is("99999", with(CLOCK, 99999).hours(1), 0);
        });
        t.edge(37, cant, "the greatest that is so", () -> {
            CoinPairs x = with(Told.head(6, 0) + Told.roads(0, 5, 9) + Told.alike(8, 9) + Told.coins(0, 0, 0).repeat(4), 67359);
            t.is("6 and 7, coin 3, place 5, worn by 9", x.hours(1), 1023);
        });
    }

    // ---- promise 38

    private void attempt() {
        String with = "With these HOURS: two people (10 times the lesser one, and the other one) whom to let CARRY a COIN to a PLACE: the greatest number of these HOURS by which it is as much more WORN (or they can't) is least, the first pair.";
        t.edge(38, with, "who tell each hour", () -> t.is("attempt", with(CLOCK, 12013).attempt(1, 0, 1), 1));
        t.edge(38, with, "who tell half of the hours, if no others tell more", () -> {
            CoinPairs x = with(CLOCK, 12013);
            x.quarrel(0, 1);
            t.is("attempt", x.attempt(1, 0, 1), 2);
        });
        t.edge(38, with, "the last pair of eight", () -> {
            CoinPairs x = with(Told.head(2, 0) + Told.roads(0, 1, 1) + Told.alike(6, 0) + Told.people(0, 8, 0, 9)
                + Told.coins(0, 0, 0) + "wears:if strong=17 then hour else 0 end;", 1010);
            t.is("attempt", x.attempt(1, 0, 1), 67);
        });
        t.edge(38, with, "these hours alone are looked at", () -> {
            CoinPairs x = with(Told.head(2, 0) + Told.roads(0, 1, 1) + Told.people(0, 1, 0, 2, 0, 4) + Told.coins(0, 0, 0)
                + "wears:if strong=3 then if hour<5 then 0 else hour end else if strong=5 then if hour<5 then hour else 0 end else if hour<5 then 1 else 2 end end end;",
                12011);
            t.is("hours", x.hours(1), 0x1f);
            t.is("0 and 1 are of no use then", x.attempt(1, 0, 1), 2);
            x.write(1, 0, 12012);
            t.is("hours", x.hours(1), 0x3e0);
            t.is("0 and 1", x.attempt(1, 0, 1), 1);
        });
        t.edge(38, with, "that they can't tells, too", () -> {
            CoinPairs x = with(Told.head(2, 0) + Told.roads(0, 1, 1) + Told.people(0, 1, 0, 2, 0, 4) + Told.coins(0, 0, 0)
                + "may:strong<6 or hour<4;wears:1;", 1011);
            t.is("hours", x.hours(1), 1023);
            t.is("1 and 2 can't from hour 4 on", x.attempt(1, 0, 1), 12);
        });
        t.edge(38, with, "that they can't is told apart from worn by 0", () -> {
            CoinPairs x = with(Told.head(2, 0) + Told.roads(0, 1, 1) + Told.people(0, 1, 0, 2, 0, 4) + Told.coins(0, 0, 0)
                + "may:strong<6 or hour<5;wears:0;", 1010);
            t.is("1 and 2", x.attempt(1, 0, 1), 12);
        });
        t.edge(38, with, "nothing is done", () -> t.refused("attempt", 1, () -> with(CLOCK, 12013), x -> x.attempt(1, 0, 1)));
    }

    private void attemptOfLikeOnes() {
        String least = "the greatest number of these HOURS by which it is as much more WORN (or they can't) is least, the first pair.";
        t.edge(38, least, "the greatest number is least, not the number of outcomes", () -> {
            CoinPairs x = with(Told.head(2, 0) + Told.roads(0, 1, 1) + Told.people(0, 1, 0, 2, 0, 4) + Told.coins(0, 0, 0)
                + "wears:if strong=3 then if hour<7 then 0 else hour end else if strong=5 then if hour<5 then 0 else 1 end else 3 end end;",
                12013);
            t.is("7, 1, 1, 1 is behind 5, 5", x.attempt(1, 0, 1), 2);
        });
        t.edge(38, least, "one less is better", () -> {
            CoinPairs x = with(Told.head(2, 0) + Told.roads(0, 1, 1) + Told.people(0, 1, 0, 2, 0, 4) + Told.coins(0, 0, 0)
                + "wears:if strong=3 then if hour<6 then 0 else 1 end else if strong=5 then if hour<5 then 0 else 1 end else 3 end end;",
                12013);
            t.is("6 is behind 5", x.attempt(1, 0, 1), 2);
        });
        t.edge(38, least, "like ones: the first pair", () -> {
            CoinPairs x = with(Told.head(2, 0) + Told.roads(0, 1, 1) + Told.people(0, 1, 0, 2, 0, 4) + Told.coins(0, 0, 0)
                + "wears:if strong=6 then 3 else hour end;", 12013);
            t.is("0 and 1, 0 and 2 tell as much", x.attempt(1, 0, 1), 1);
        });
        t.edge(38, least, "nobody tells anything: the first pair", () -> {
            t.is("one hour", with(CLOCK, 1014).attempt(1, 0, 1), 1);
            t.is("where it is: nobody can", with(CLOCK, 12013).attempt(1, 0, 0), 1);
        });
        t.edge(38, least, "the first pair may have quarrelled", () -> {
            CoinPairs x = with(CLOCK, 12013);
            x.quarrel(0, 1);
            x.quarrel(0, 2);
            t.is("attempt", x.attempt(1, 0, 1), 1);
        });
    }

    private void attemptNone() {
        String none = "and behind all these NONE: there are none, fewer than two people.";
        t.edge(38, none, "there are no such hours", () -> t.is("attempt", with(CLOCK, 12012).attempt(1, 0, 1), -1));
        String alone = Told.head(2, 0) + Told.roads(0, 1, 1) + Told.alike(1, 9) + Told.coins(0, 0, 0);
        t.edge(38, none, "one person", () -> t.is("attempt", with(alone, 1011).attempt(1, 0, 1), -1));
        t.edge(38, none, "nobody", () -> t.is("attempt",
            with(Told.head(2, 0) + Told.roads(0, 1, 1) + Told.coins(0, 0, 0), 1011).attempt(1, 0, 1), -1));
        t.edge(38, none, "two people are enough", () -> t.is("attempt",
            with(Told.head(2, 0) + Told.roads(0, 1, 1) + Told.alike(2, 9) + Told.coins(0, 0, 0), 1011).attempt(1, 0, 1), 1));
        t.edge(38, none, "behind -2, -4, -3", () -> {
            t.is("place 2", with(alone, 1011).attempt(1, 0, 2), -2);
            t.is("no number", with(alone).attempt(1, 0, 1), -4);
            t.is("a number -1", with(alone, -1).attempt(1, 0, 1), -3);
        });
    }

    private void attemptRefused() {
        String no = "-2: the TRAY, the COIN, the PLACE; else as hours(),";
        for (int tray : new int[] {4, -1, MAX, MIN}) {
            t.edge(38, no, "tray " + tray, () -> t.refused("attempt", -2, EdgesOfRims::trays, x -> x.attempt(tray, 0, 1)));
        }
        for (int c : new int[] {2, -1, MAX, MIN}) {
            t.edge(38, no, "coin " + c, () -> t.refused("attempt", -2, EdgesOfRims::trays, x -> x.attempt(1, c, 1)));
        }
        for (int to : new int[] {3, -1, MAX, MIN}) {
            t.edge(38, no, "place " + to, () -> t.refused("attempt", -2, EdgesOfRims::trays, x -> x.attempt(1, 0, to)));
        }
        t.edge(38, no, "the tray is missing", () -> t.refused("attempt", -6, EdgesOfRims::trays, x -> x.attempt(3, 0, 1)));
        t.edge(38, no, "no number", () -> t.refused("attempt", -4, EdgesOfRims::trays, x -> x.attempt(0, 0, 1)));
        t.edge(38, no, "9 numbers", () -> t.refused("attempt", -4, EdgesOfRims::trays, x -> x.attempt(2, 0, 1)));
        t.edge(38, no, "-1, 100000", () -> {
            t.refused("attempt", -3, () -> with(CLOCK, 12013, -1), x -> x.attempt(1, 0, 1));
            t.refused("attempt", -3, () -> with(CLOCK, 100000, 12013), x -> x.attempt(1, 0, 1));
        });
        t.edge(38, no, "-2 ahead of -6, -4, -3", () -> {
            t.is("missing, place 3", trays().attempt(3, 0, 3), -2);
            t.is("no number, coin 2", trays().attempt(0, 2, 1), -2);
            t.is("a number -1, place 2", with(CLOCK, -1).attempt(1, 0, 2), -2);
        });
        t.edge(38, no, "-4 ahead of -3", () -> t.is("attempt",
            with(CLOCK, -1, 0, 0, 0, 0, 0, 0, 0, 0).attempt(1, 0, 1), -4));
    }
}
