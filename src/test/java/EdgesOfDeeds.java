/** Boundary cases of promises 15 to 18: deeds undone, judged, performed, drawn. */
final class EdgesOfDeeds {
    private static final int MIN = Integer.MIN_VALUE;
    private static final int MAX = Integer.MAX_VALUE;

    /** Eight people, four coins at place 0, from which a road leads to each other place. */
    private static final String STAR = Told.head(6, 3) + Told.roads(0, 1, 1, 0, 2, 2, 0, 3, 3, 0, 4, 4, 0, 5, 5)
        + Told.alike(7, 1) + Told.people(0, 9) + Told.quarrels(6, 7) + Told.coins(0, 1, 1, 0, 1, 1, 0, 1, 1, 0, 9, 1);

    private final Edges t;

    private EdgesOfDeeds(Edges t) {
        this.t = t;
    }

    static void all(Edges t) {
        EdgesOfDeeds e = new EdgesOfDeeds(t);
        e.undo();
        e.undoRefused();
        e.undoTenAtMost();
        e.undoBringsBack();
        e.undoOfCallsThatDidSome();
        e.judge();
        e.judgeWhatIsThen();
        e.judgeRefused();
        e.hoursAndQuarrelsAsDeeds();
        e.carryingsAsDeeds();
        e.perform();
        e.performRefused();
        e.year();
        e.draws();
        e.yearRefused();
    }

    private static CoinPairs star() {
        return Due.of(STAR);
    }

    private static CoinPairs four() {
        return Due.of(ValleyTest.FOUR);
    }

    private static CoinPairs starWith(long... deeds) {
        CoinPairs x = star();
        Due.tray(x, 2, deeds);
        return x;
    }

    // ---- promise 15

    private static CoinPairs hours(int many) {
        CoinPairs x = new CoinPairs();
        for (int i = 1; i <= many; i++) {
            x.hour(i % 10);
        }
        return x;
    }

    private void undo() {
        String calls = "n calls (1 to 10) are UNDONE: how many still can be.";
        t.edge(15, calls, "1 of 1", () -> {
            CoinPairs x = hours(1);
            t.is("undo(1)", x.undo(1), 0);
            t.is("count(4)", x.count(4), 0);
            t.is("count(8)", x.count(8), 0);
        });
        t.edge(15, calls, "1 of 10", () -> {
            CoinPairs x = hours(10);
            t.is("undo(1)", x.undo(1), 9);
            t.is("count(4)", x.count(4), 9);
        });
        t.edge(15, calls, "10 of 10", () -> {
            CoinPairs x = hours(10);
            t.is("undo(10)", x.undo(10), 0);
            t.is("count(4)", x.count(4), 0);
        });
        t.edge(15, calls, "some, and some more", () -> {
            CoinPairs x = hours(9);
            t.is("undo(3)", x.undo(3), 6);
            t.is("count(4)", x.count(4), 6);
            t.is("undo(6)", x.undo(6), 0);
            t.is("then count(4)", x.count(4), 0);
        });
    }

    private void undoRefused() {
        String cant = "-3: n, more than can be.";
        for (int n : new int[] {0, -1, 11, MAX, MIN}) {
            t.edge(15, cant, "n is " + n, () -> t.refused("undo", -3, () -> hours(10), x -> x.undo(n)));
        }
        t.edge(15, cant, "1 of none", () -> t.refused("undo(1)", -3, CoinPairs::new, x -> x.undo(1)));
        t.edge(15, cant, "3 of 2", () -> t.refused("undo(3)", -3, () -> hours(2), x -> x.undo(3)));
        t.edge(15, cant, "10 of 9", () -> t.refused("undo(10)", -3, () -> hours(9), x -> x.undo(10)));
        t.edge(15, cant, "11 of 11", () -> t.refused("undo(11)", -3, () -> hours(11), x -> x.undo(11)));
        t.edge(15, cant, "one more behind all", () -> {
            CoinPairs x = hours(2);
            x.undo(2);
            t.is("undo(1)", x.undo(1), -3);
        });
    }

    private void undoTenAtMost() {
        String ten = "Calls that did some can be UNDONE each as a whole, the latest first, 10 at most (eldest are forgotten):";
        t.edge(15, ten, "the tenth call", () -> t.is("count(8)", hours(10).count(8), 10));
        t.edge(15, ten, "an eleventh call", () -> {
            CoinPairs x = hours(11);
            t.is("count(8)", x.count(8), 10);
            t.is("undo(10)", x.undo(10), 0);
            t.is("what the eldest did stays", x.count(4), 1);
        });
        t.edge(15, ten, "a 21st call", () -> {
            CoinPairs x = hours(21);
            t.is("undo(10)", x.undo(10), 0);
            t.is("count(4)", x.count(4), 1);
            t.is("undo(1)", x.undo(1), -3);
        });
        t.edge(15, ten, "the latest first", () -> {
            CoinPairs x = hours(13);
            for (int left = 9; left >= 0; left--) {
                t.is("undo(1)", x.undo(1), left);
                t.is("count(4)", x.count(4), (left + 3) % 10);
            }
        });
        t.edge(15, ten, "calls behind some that were undone", () -> {
            CoinPairs x = hours(12);
            x.undo(5);
            x.hour(0);
            t.is("count(8)", x.count(8), 6);
            t.is("undo(1)", x.undo(1), 5);
            t.is("count(4)", x.count(4), 7);
            t.is("undo(5)", x.undo(5), 0);
            t.is("then count(4)", x.count(4), 2);
        });
        t.edge(15, ten, "what was undone can't be done again by undoing", () -> {
            CoinPairs x = hours(3);
            x.undo(1);
            t.is("count(8)", x.count(8), 2);
            t.is("undo(1)", x.undo(1), 1);
            t.is("count(4)", x.count(4), 1);
        });
        t.edge(15, ten, "each as a whole", () -> {
            CoinPairs x = starWith(10101, 17, 101);
            t.is("perform", x.perform(2), 3);
            t.is("count(8)", x.count(8), 1);
            t.is("undo(1)", x.undo(1), 0);
            t.is("count(4)", x.count(4), 3);
            t.is("count(5)", x.count(5), 1);
            t.is("count(6)", x.count(6), 0);
        });
        t.edge(15, ten, "a year as a whole", () -> {
            CoinPairs x = star();
            t.is("some could be", Math.min(2, x.year(1, 40)), 2);
            t.is("undo(1)", x.undo(1), 0);
            t.is("all as it was", Seen.all(x).equals(Seen.all(star())) ? 1 : 0, 1);
        });
    }

    private void undoBringsBack() {
        String back = "where COINS are, how WORN, quarrels, HOUR, how many were CARRIED.";
        t.edge(15, back, "where coins are", () -> {
            CoinPairs x = star();
            x.carry(0, 7, 3, 5);
            x.undo(1);
            t.is("coin(3, 0)", x.coin(3, 0), 0);
        });
        t.edge(15, back, "how worn", () -> {
            CoinPairs x = star();
            x.carry(0, 7, 3, 5);
            x.undo(1);
            t.is("coin(3, 3)", x.coin(3, 3), 0);
            t.is("count(7)", x.count(7), 0);
        });
        t.edge(15, back, "quarrels, begun and made up", () -> {
            CoinPairs x = star();
            x.quarrel(0, 7);
            x.quarrel(6, 7);
            t.is("undo(1)", x.undo(1), 1);
            t.is("made up again", x.person(7, 2), 64 + 1);
            x.undo(1);
            t.is("begun again", x.person(7, 2), 64);
            t.is("person(0, 2)", x.person(0, 2), 0);
        });
        t.edge(15, back, "the hour", () -> {
            CoinPairs x = star();
            x.hour(9);
            x.undo(1);
            t.is("count(4)", x.count(4), 3);
        });
        t.edge(15, back, "how many were carried", () -> {
            CoinPairs x = star();
            x.carry(0, 1, 0, 5);
            x.carry(0, 1, 0, 0);
            x.undo(1);
            t.is("count(6)", x.count(6), 1);
        });
        t.edge(15, back, "trays and the tape stay as they are", () -> {
            CoinPairs x = star();
            x.hour(9);
            Due.tray(x, 0, 12, 13);
            Due.feed(x, "valley");
            x.undo(1);
            t.is("perform(0)", x.perform(0), 2);
            t.is("count(9)", x.count(9), 20);
        });
    }

    private void undoOfCallsThatDidSome() {
        String some = "Calls that did some can be UNDONE each as a whole";
        t.edge(15, some, "refused ones did none", () -> {
            CoinPairs x = four();
            x.carry(0, 1, 0, 3);
            x.quarrel(0, 0);
            x.hour(10);
            x.year(1, 0);
            x.perform(0);
            x.undo(1);
            t.is("count(8)", x.count(8), 0);
        });
        t.edge(15, some, "perform() by which none was done", () -> {
            CoinPairs x = starWith(11011, 12);
            t.is("perform", x.perform(2), 0);
            t.is("count(8)", x.count(8), 0);
            x.numbers(2, 0, 0);
            t.is("of an empty tray", x.perform(2), 0);
            t.is("count(8)", x.count(8), 0);
        });
        t.edge(15, some, "year() by which none could be", () -> {
            CoinPairs x = new CoinPairs();
            t.is("nobody can quarrel", x.year(3, 1), 0);
            t.is("count(8)", x.count(8), 0);
        });
        t.edge(15, some, "questions, trays, images, the tape did none", () -> {
            CoinPairs x = starWith(10101, 17);
            x.judge(2, 0);
            x.worn(0, 1, 0, 1);
            x.lists(2, 0, 5);
            x.image(0);
            Due.feed(x, "valley");
            t.is("count(8)", x.count(8), 0);
        });
        t.edge(15, some, "carry, quarrel, hour, perform, year did some", () -> {
            CoinPairs x = starWith(17);
            x.carry(0, 1, 0, 1);
            x.quarrel(0, 1);
            x.hour(4);
            x.perform(2);
            x.year(0, 1);
            t.is("count(8)", x.count(8), 5);
        });
    }

    // ---- promise 16

    private void judge() {
        String first = "DEEDS, judged as if done, what 0: the first place that can't be (NONE), 1: why (0),";
        t.edge(16, first, "no deeds", () -> {
            CoinPairs x = starWith();
            t.is("judge(2, 0)", x.judge(2, 0), -1);
            t.is("judge(2, 1)", x.judge(2, 1), 0);
        });
        t.edge(16, first, "all can be", () -> {
            CoinPairs x = starWith(10101, 101, 10);
            t.is("judge(2, 0)", x.judge(2, 0), -1);
            t.is("judge(2, 1)", x.judge(2, 1), 0);
        });
        t.edge(16, first, "the first one can't", () -> {
            CoinPairs x = starWith(20, 10101);
            t.is("judge(2, 0)", x.judge(2, 0), 0);
            t.is("judge(2, 1)", x.judge(2, 1), 1);
        });
        t.edge(16, first, "the last one of forty can't", () -> {
            long[] deeds = new long[40];
            java.util.Arrays.fill(deeds, 15);
            deeds[39] = 10100;
            CoinPairs x = starWith(deeds);
            t.is("judge(2, 0)", x.judge(2, 0), 39);
            t.is("judge(2, 1)", x.judge(2, 1), 2);
        });
        t.edge(16, first, "forty, all can be", () -> {
            long[] deeds = new long[40];
            java.util.Arrays.fill(deeds, 101);
            t.is("judge(2, 0)", starWith(deeds).judge(2, 0), -1);
        });
        t.edge(16, first, "several can't", () -> {
            CoinPairs x = starWith(10101, 10634, 20, 10100);
            t.is("judge(2, 0)", x.judge(2, 0), 1);
            t.is("why of the first of them", x.judge(2, 1), 4);
        });
        t.edge(16, first, "why is each of 1 to 4", () -> {
            t.is("1", starWith(10801).judge(2, 1), 1);
            t.is("2", starWith(10100).judge(2, 1), 2);
            t.is("3", starWith(16701).judge(2, 1), 3);
            t.is("4", starWith(10131).judge(2, 1), 4);
        });
        t.edge(16, first, "as if done: each behind those ahead of it", () -> {
            t.is("from where it is then", starWith(10101, 10100).judge(2, 0), -1);
            t.is("quarrelled then", starWith(101, 10101).judge(2, 1), 3);
            t.is("made up then", starWith(167, 16701).judge(2, 0), -1);
            CoinPairs x = Due.of(STAR + "may:hour=9;");
            Due.tray(x, 2, 19, 10101);
            t.is("at another hour", x.judge(2, 0), -1);
        });
        t.edge(16, first, "nothing is done", () -> {
            for (int what = 0; what < 4; what++) {
                CoinPairs x = starWith(10101, 101, 19, 20);
                x.judge(2, what);
                t.is("as before, what " + what, Seen.all(x).equals(Seen.all(starWith(10101, 101, 19, 20))) ? 1 : 0, 1);
            }
        });
        t.edge(16, first, "the ten last calls can still be undone", () -> {
            CoinPairs x = hours(10);
            Due.tray(x, 0, 15);
            x.judge(0, 0);
            t.is("undo(10)", x.undo(10), 0);
            t.is("count(4)", x.count(4), 0);
        });
    }

    private void judgeWhatIsThen() {
        String where = "2: where COINS are then, the PLACE of COIN c times 10 to the c-th, added, 3: how WORN all are together then.";
        t.edge(16, where, "no coins", () -> {
            CoinPairs x = new CoinPairs();
            Due.tray(x, 0, 15);
            t.is("judge(0, 2)", x.judge(0, 2), 0);
            t.is("judge(0, 3)", x.judge(0, 3), 0);
        });
        t.edge(16, where, "no coins any more, where there were some", () -> {
            CoinPairs x = star();
            x.carry(0, 7, 3, 5);
            Due.valley(x, Told.head(6, 0) + Told.coins(5, 0, 0).repeat(4));
            Due.valley(x, Told.head(1, 0));
            Due.tray(x, 0, 15);
            t.is("judge(0, 2)", x.judge(0, 2), 0);
            t.is("judge(0, 3)", x.judge(0, 3), 0);
        });
        t.edge(16, where, "one coin at the last place", () -> {
            CoinPairs x = Due.of(Told.head(6, 0) + Told.coins(5, 0, 0));
            Due.tray(x, 0);
            t.is("judge(0, 2)", x.judge(0, 2), 5);
        });
        t.edge(16, where, "four coins, each at a place of its own", () -> {
            CoinPairs x = starWith(10702, 10713, 10724, 10735);
            t.is("judge(2, 2)", x.judge(2, 2), 5432);
            t.is("judge(2, 3)", x.judge(2, 3), 2 + 3 + 4 + 5);
        });
        t.edge(16, where, "four coins at the last place", () -> {
            CoinPairs x = starWith(10705, 10715, 10725, 10735);
            t.is("judge(2, 2)", x.judge(2, 2), 5555);
        });
        t.edge(16, where, "no deeds: as it is", () -> {
            CoinPairs x = starWith();
            x.carry(0, 7, 3, 5);
            t.is("judge(2, 2)", x.judge(2, 2), 5000);
            t.is("judge(2, 3)", x.judge(2, 3), 5);
        });
        t.edge(16, where, "behind those ahead of the first that can't be", () -> {
            CoinPairs x = starWith(10702, 20, 10713);
            t.is("judge(2, 2)", x.judge(2, 2), 2);
            t.is("judge(2, 3)", x.judge(2, 3), 2);
        });
        t.edge(16, where, "how worn all were before counts, too", () -> {
            CoinPairs x = starWith(10700, 10705);
            x.carry(0, 1, 0, 5);
            x.carry(0, 1, 1, 4);
            t.is("judge(2, 3)", x.judge(2, 3), 5 + 4 + 5 + 5);
        });
    }

    private void judgeRefused() {
        String no = "-2: the TRAY, what; -6.";
        for (int n : new int[] {4, -1, MAX, MIN}) {
            t.edge(16, no, "tray " + n, () -> t.refused("judge", -2, EdgesOfCarrying::worked, x -> x.judge(n, 0)));
            t.edge(16, no, "what is " + n, () -> t.refused("judge", -2, EdgesOfCarrying::worked, x -> x.judge(0, n)));
        }
        t.edge(16, no, "the tray is missing", () -> t.refused("judge", -6, EdgesOfCarrying::worked, x -> x.judge(3, 0)));
        t.edge(16, no, "the tray is missing, whatever what is", () -> {
            for (int what = 0; what < 4; what++) {
                t.is("judge(3, " + what + ")", four().judge(3, what), -6);
            }
        });
        t.edge(16, no, "-2 ahead of -6", () -> t.is("judge(3, 4)", four().judge(3, 4), -2));
        t.edge(16, no, "tray 3 can be", () -> {
            CoinPairs x = four();
            Due.tray(x, 3, 10101);
            t.is("judge(3, 2)", x.judge(3, 2), 21);
        });
    }

    /** Why a deed can't be in the valley of STAR. */
    private int reason(long deed) {
        return starWith(deed).judge(2, 1);
    }

    private void hoursAndQuarrelsAsDeeds() {
        String hours = "DEEDS: 10 to 19: HOUR v - 10;";
        t.edge(16, hours, "9 and 20 are none", () -> {
            t.is("9", reason(9), 1);
            t.is("20", reason(20), 1);
        });
        t.edge(16, hours, "10 is hour 0, 19 is hour 9", () -> {
            CoinPairs x = starWith(10);
            t.is("perform", x.perform(2), 1);
            t.is("count(4)", x.count(4), 0);
            x = starWith(19);
            t.is("perform", x.perform(2), 1);
            t.is("count(4)", x.count(4), 9);
        });
        String quarrels = "100 to 199: people (v - 100) by 10 and v modulo 10 QUARREL;";
        t.edge(16, quarrels, "99 and 200 are none", () -> {
            t.is("99", reason(99), 1);
            t.is("200", reason(200), 1);
        });
        t.edge(16, quarrels, "both one", () -> {
            t.is("100", reason(100), 1);
            t.is("177", reason(177), 1);
        });
        t.edge(16, quarrels, "no such person", () -> {
            t.is("108", reason(108), 1);
            t.is("180", reason(180), 1);
            t.is("199", reason(199), 1);
        });
        t.edge(16, quarrels, "either one first, the first and the last person", () -> {
            CoinPairs x = starWith(107, 170, 101, 110, 110);
            t.is("perform", x.perform(2), 5);
            t.is("person(0, 2)", x.person(0, 2), 2);
            t.is("person(7, 2)", x.person(7, 2), 64);
        });
        t.edge(16, quarrels, "as a number of 8 bits", () -> {
            CoinPairs x = star();
            x.numbers(0, 0, 1);
            x.write(0, 0, 127);
            t.is("perform", x.perform(0), 1);
            t.is("person(2, 2)", x.person(2, 2), 128);
        });
        String others = "others: 1.";
        for (long v : new long[] {0, 1, -1, -10, 21, 201, 9998, 20001, (1L << 32) + 10, (1L << 32) + 101, (1L << 32) + 10101,
            Long.MAX_VALUE, Long.MIN_VALUE}) {
            t.edge(16, others, "" + v, () -> t.is("why", reason(v), 1));
        }
    }

    private void carryingsAsDeeds() {
        String carry = "10000 to 19999: of v - 10000 the thousands and the hundreds tell two people, the tens a COIN, the last a PLACE: they CARRY it there (the first person the lesser one, else 1);";
        t.edge(16, carry, "9999 and 20000 are none", () -> {
            t.is("9999", reason(9999), 1);
            t.is("20000", reason(20000), 1);
        });
        t.edge(16, carry, "10000 and 19999: both one, none such", () -> {
            t.is("10000", reason(10000), 1);
            t.is("19999", reason(19999), 1);
        });
        t.edge(16, carry, "the first person is the greater one", () -> {
            t.is("1 and 0", reason(11001), 1);
            t.is("7 and 5", reason(17535), 1);
        });
        t.edge(16, carry, "both are one", () -> {
            t.is("0 and 0", reason(10001), 1);
            t.is("7 and 7", reason(17705), 1);
        });
        t.edge(16, carry, "the last person, coin and place", () -> {
            CoinPairs x = starWith(15735);
            t.is("perform", x.perform(2), 1);
            t.is("coin(3, 0)", x.coin(3, 0), 5);
            t.is("coin(3, 3)", x.coin(3, 3), 5);
            t.is("count(6)", x.count(6), 1);
        });
        t.edge(16, carry, "the last two people of eight", () -> {
            CoinPairs x = starWith(167, 16735);
            t.is("perform", x.perform(2), 2);
            t.is("coin(3, 0)", x.coin(3, 0), 5);
        });
        t.edge(16, carry, "worn by 0: carried all the same", () -> {
            CoinPairs x = Due.of(STAR + "wears:0;");
            Due.tray(x, 2, 10101);
            t.is("judge(2, 2)", x.judge(2, 2), 1);
            t.is("perform", x.perform(2), 1);
            t.is("coin(0, 0)", x.coin(0, 0), 1);
            t.is("count(6)", x.count(6), 1);
        });
        t.edge(16, carry, "no such person, coin, place", () -> {
            t.is("person 8", reason(10805), 1);
            t.is("people 8 and 9", reason(18905), 1);
            t.is("coin 4", reason(10145), 1);
            t.is("place 6", reason(10106), 1);
        });
        t.edge(16, carry, "2, 3, 4 as for carry()", () -> {
            t.is("where it is", reason(10100), 2);
            t.is("quarrelled", reason(16701), 3);
            t.is("too weak", reason(10131), 4);
        });
        t.edge(16, carry, "the greater one first is ahead of 2, 3, 4", () -> {
            t.is("where it is", reason(11000), 1);
            t.is("quarrelled", reason(17601), 1);
        });
    }

    // ---- promise 17

    private void perform() {
        String done = "They are done, till one can't be: how many.";
        t.edge(17, done, "no deeds", () -> t.refused("perform", 0, EdgesOfDeeds::starWith, x -> x.perform(2)));
        t.edge(17, done, "the first one can't", () -> t.refused("perform", 0, () -> starWith(10100, 15, 101), x -> x.perform(2)));
        t.edge(17, done, "the last one can't", () -> {
            CoinPairs x = starWith(10101, 15, 10101);
            t.is("perform", x.perform(2), 2);
            t.is("coin(0, 0)", x.coin(0, 0), 1);
            t.is("count(4)", x.count(4), 5);
            t.is("count(6)", x.count(6), 1);
        });
        t.edge(17, done, "what is behind one that can't isn't done", () -> {
            CoinPairs x = starWith(101, 20, 10121, 19);
            t.is("perform", x.perform(2), 1);
            t.is("count(4)", x.count(4), 3);
            t.is("count(6)", x.count(6), 0);
            t.is("count(5)", x.count(5), 2);
        });
        t.edge(17, done, "all forty", () -> {
            long[] deeds = new long[40];
            for (int i = 0; i < 40; i++) {
                deeds[i] = i % 2 == 0 ? 10105 : 10100;
            }
            CoinPairs x = starWith(deeds);
            t.is("perform", x.perform(2), 40);
            t.is("count(6)", x.count(6), 40);
            t.is("coin(0, 3)", x.coin(0, 3), 200);
            t.is("count(8)", x.count(8), 1);
        });
        t.edge(17, done, "the tray stays and can be performed again", () -> {
            CoinPairs x = starWith(10101, 10100);
            x.perform(2);
            t.is("again", x.perform(2), 2);
            t.is("count(6)", x.count(6), 4);
        });
    }

    private void performRefused() {
        String no = "-2; -6.";
        for (int n : new int[] {4, -1, MAX, MIN}) {
            t.edge(17, no, "tray " + n, () -> t.refused("perform", -2, EdgesOfCarrying::worked, x -> x.perform(n)));
        }
        t.edge(17, no, "the tray is missing", () -> t.refused("perform", -6, EdgesOfCarrying::worked, x -> x.perform(3)));
        t.edge(17, no, "trays 0 to 3 are missing at first", () -> {
            for (int tray = 0; tray < 4; tray++) {
                t.is("perform(" + tray + ")", star().perform(tray), -6);
            }
        });
        t.edge(17, no, "tray 3 can be", () -> {
            CoinPairs x = star();
            Due.tray(x, 3, 10101);
            t.is("perform(3)", x.perform(3), 1);
        });
    }

    // ---- promise 18

    private void year() {
        String could = "A YEAR: how many could be.";
        t.edge(18, could, "one that could", () -> {
            CoinPairs x = star();
            t.is("year(0, 1)", x.year(0, 1), 1);
            t.is("count(4)", x.count(4), 6);
        });
        t.edge(18, could, "one that couldn't", () -> t.refused("year(97, 1)", 0, EdgesOfDeeds::star, x -> x.year(97, 1)));
        t.edge(18, could, "nobody is there: none but the hours", () -> {
            CoinPairs x = new CoinPairs();
            int[] drawn = {12};
            int hours = 0;
            for (int i = 0; i < 40; i++) {
                hours += nextDeed(drawn) < 20 ? 1 : 0;
            }
            t.is("year(12, 40)", x.year(12, 40), hours);
        });
        String times = "so many times (1 to 40):";
        t.edge(18, times, "1", () -> t.is("year(0, 1)", star().year(0, 1), 1));
        t.edge(18, times, "40", () -> asTold(1, 40));
        t.edge(18, times, "the draws go on from one to the next", () -> {
            asTold(0, 2);
            asTold(7, 39);
            asTold(-1, 25);
        });
        t.edge(18, times, "as many years as can be undone, and one more", () -> {
            CoinPairs x = star();
            for (int i = 0; i < 11; i++) {
                x.year(0, 1);
            }
            t.is("count(8)", x.count(8), 10);
        });
        String goesOn = "as in a TRAY, if it can be.";
        t.edge(18, goesOn, "one that can't be doesn't end the year", () -> {
            int[] drawn = {97};
            t.is("the first drawn is both one", nextDeed(drawn), 100);
            asTold(97, 20);
        });
        t.edge(18, goesOn, "those that can't be do nothing", () -> asTold(-23, 1));
    }

    /** The draws done over by hand, each deed performed alone. */
    private void asTold(int seed, int times) {
        CoinPairs x = star();
        CoinPairs y = star();
        int[] drawn = {seed};
        int could = 0;
        for (int i = 0; i < times; i++) {
            y.numbers(0, 3, 1);
            y.write(0, 0, nextDeed(drawn));
            could += y.perform(0);
        }
        t.is("year(" + seed + ", " + times + ")", x.year(seed, times), could);
        for (int what = 4; what <= 7; what++) {
            t.is("count(" + what + ") behind seed " + seed, x.count(what), y.count(what));
        }
        for (int c = 0; c < 4; c++) {
            t.is("coin(" + c + ", 0) behind seed " + seed, x.coin(c, 0), y.coin(c, 0));
            t.is("coin(" + c + ", 3) behind seed " + seed, x.coin(c, 3), y.coin(c, 3));
        }
        for (int p = 0; p < 8; p++) {
            t.is("person(" + p + ", 2) behind seed " + seed, x.person(p, 2), y.person(p, 2));
        }
        t.is("count(8) behind seed " + seed, x.count(8), could > 0 ? 1 : 0);
    }

    private static long nextDeed(int[] drawn) {
        int kind = next(drawn) % 6;
        if (kind == 0) {
            return 10 + next(drawn) % 10;
        }
        if (kind == 1) {
            long first = next(drawn) % 8;
            return 100 + 10 * first + next(drawn) % 8;
        }
        long p = next(drawn) % 8;
        long q = next(drawn) % 8;
        long c = next(drawn) % 4;
        return 10000 + 1000 * p + 100 * q + 10 * c + next(drawn) % 6;
    }

    private static int next(int[] drawn) {
        drawn[0] = 1103515245 * drawn[0] + 12345;
        return drawn[0] >>> 16;
    }

    /** Seeds whose first deed was reckoned apart from all Java. */
    private void draws() {
        String draw = "A YEAR by a SEED (x, an int; a DRAW: x becomes 1103515245 x + 12345, it is x >>> 16):";
        t.edge(18, draw, "seed 0", () -> {
            CoinPairs x = star();
            x.year(0, 1);
            t.is("hour 6", x.count(4), 6);
        });
        t.edge(18, draw, "a seed below 0", () -> quarrels(-1, 1, 6));
        t.edge(18, draw, "the greatest int", () -> carries(MAX, 1, 6, 2, 3));
        t.edge(18, draw, "the least int: 4 and 4", () -> t.is("year", star().year(MIN, 1), 0));
        String deeds = "DRAW modulo 6: 0 HOUR DRAW modulo 10; 1 people DRAW modulo 8 and DRAW modulo 8 QUARREL; others: the DEED 10000, 1000 times DRAW modulo 8, 100 times DRAW modulo 8, 10 times DRAW modulo 4, DRAW modulo 6, added (the first person not the lesser one: it can't be);";
        t.edge(18, deeds, "0: the least and the greatest hour", () -> {
            CoinPairs x = star();
            t.is("year(-12, 1)", x.year(-12, 1), 1);
            t.is("hour 0", x.count(4), 0);
            t.is("year(22, 1)", x.year(22, 1), 1);
            t.is("hour 9", x.count(4), 9);
        });
        t.edge(18, deeds, "1: the lesser person first", () -> quarrels(3, 3, 5));
        t.edge(18, deeds, "1: the greater person first", () -> quarrels(5, 1, 0));
        t.edge(18, deeds, "1: the last person", () -> quarrels(69, 7, 0));
        t.edge(18, deeds, "1: both one", () -> t.is("year(97, 1)", star().year(97, 1), 0));
        t.edge(18, deeds, "1: no such person", () -> t.is("year(3, 1)", four().year(3, 1), 0));
        t.edge(18, deeds, "2", () -> carries(14, 0, 4, 0, 4));
        t.edge(18, deeds, "3", () -> carries(16, 5, 7, 1, 3));
        t.edge(18, deeds, "4", () -> carries(8, 0, 2, 1, 4));
        t.edge(18, deeds, "5", () -> carries(11, 0, 3, 0, 2));
        t.edge(18, deeds, "the first person not the lesser one", () -> {
            t.is("6 and 5", star().year(10, 1), 0);
            t.is("0 and 0", star().year(51, 1), 0);
        });
    }

    private void quarrels(int seed, int p, int q) {
        CoinPairs x = star();
        t.is("year(" + seed + ", 1)", x.year(seed, 1), 1);
        t.is("the first", x.person(p, 2) & 1 << q, 1 << q);
        t.is("the second", x.person(q, 2) & 1 << p, 1 << p);
        t.is("count(5)", x.count(5), 2);
        t.is("count(6)", x.count(6), 0);
    }

    private void carries(int seed, int p, int q, int c, int to) {
        CoinPairs x = star();
        t.is("they can", x.why(p, q, c, to), 0);
        t.is("year(" + seed + ", 1)", x.year(seed, 1), 1);
        t.is("coin(" + c + ", 0)", x.coin(c, 0), to);
        t.is("count(6)", x.count(6), 1);
        x.undo(1);
        x.quarrel(p, q);
        t.is("if these two have quarrelled, year(" + seed + ", 1)", x.year(seed, 1), 0);
    }

    private void yearRefused() {
        String no = "-3: how many times.";
        for (int times : new int[] {0, 41, -1, MAX, MIN}) {
            t.edge(18, no, times + " times", () -> t.refused("year", -3, EdgesOfCarrying::worked, x -> x.year(1, times)));
        }
    }
}
