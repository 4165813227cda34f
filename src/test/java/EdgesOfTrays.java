/** Boundary cases of promises 43 to 48: trays, images, counts; and of what holds for all calls. */
final class EdgesOfTrays {
    private static final int MIN = Integer.MIN_VALUE;
    private static final int MAX = Integer.MAX_VALUE;

    /** A row of six and two who carry. */
    private static final String LINE = Told.head(6, 0) + Told.roads(0, 1, 1, 1, 2, 1, 2, 3, 1, 3, 4, 1) + Told.alike(2, 3)
        + Told.coins(0, 6, 0);

    private final Edges t;

    private EdgesOfTrays(Edges t) {
        this.t = t;
    }

    static void all(Edges t) {
        EdgesOfTrays e = new EdgesOfTrays(t);
        e.numbers();
        e.numbersRefused();
        e.write();
        e.writeRefused();
        e.lists();
        e.listsRefused();
        e.image();
        e.restore();
        e.imagesRefused();
        e.count();
        e.countOthers();
        e.refusals();
    }

    private static CoinPairs worked() {
        return EdgesOfCarrying.worked();
    }

    // ---- promise 43

    private void numbers() {
        String all = "A TRAY has n numbers of a sort, all 0 (in place of another one): 0.";
        t.edge(43, all, "0 numbers", () -> {
            CoinPairs x = new CoinPairs();
            t.is("numbers(0, 0, 0)", x.numbers(0, 0, 0), 0);
            t.is("write(0, 0, 1)", x.write(0, 0, 1), -7);
            t.is("perform(0)", x.perform(0), 0);
        });
        t.edge(43, all, "40 numbers", () -> {
            CoinPairs x = new CoinPairs();
            t.is("numbers(0, 0, 40)", x.numbers(0, 0, 40), 0);
            t.is("write(0, 39, 15)", x.write(0, 39, 15), 15);
            t.is("write(0, 40, 15)", x.write(0, 40, 15), -7);
        });
        t.edge(43, all, "all 0", () -> {
            CoinPairs x = Due.of(LINE);
            x.numbers(0, 0, 8);
            t.is("no deed", x.judge(0, 0), 0);
            t.is("why", x.judge(0, 1), 1);
            x.numbers(0, 0, 1);
            Due.valley(x, LINE + "wears:0;");
            t.is("worn by 0", x.wornBy(0, 0), 1);
            Due.valley(x, LINE);
            t.is("worn by 1, not by 0", x.wornBy(0, 0), 0);
        });
        t.edge(43, all, "in place of another one: all 0 again, also those beyond", () -> {
            CoinPairs x = new CoinPairs();
            Due.tray(x, 0, 15, 16, 17);
            t.is("performed", x.perform(0), 3);
            t.is("numbers(0, 3, 1)", x.numbers(0, 3, 1), 0);
            t.is("judge(0, 0)", x.judge(0, 0), 0);
            x.numbers(0, 3, 3);
            x.write(0, 0, 15);
            t.is("judge(0, 0)", x.judge(0, 0), 1);
        });
        t.edge(43, all, "in place of another one: of another sort", () -> {
            CoinPairs x = new CoinPairs();
            x.numbers(0, 3, 1);
            t.is("64 bits", x.write(0, 0, 300), 300);
            x.numbers(0, 0, 1);
            t.is("8 bits", x.write(0, 0, 300), 44);
        });
        t.edge(43, all, "each tray for itself", () -> {
            CoinPairs x = new CoinPairs();
            x.numbers(3, 0, 1);
            t.is("tray 3", x.write(3, 0, 15), 15);
            for (int tray = 0; tray < 3; tray++) {
                t.is("tray " + tray, x.write(tray, 0, 1), -6);
            }
        });
        String trays = "TRAYS 0 to 3 are MISSING at first, or have 0 to 40 numbers of 8 bits (sort 0), 16 (1), 32 (2), 64 (3).";
        t.edge(43, trays, "missing at first", () -> {
            for (int tray = 0; tray < 4; tray++) {
                t.is("write(" + tray + ", 0, 1)", new CoinPairs().write(tray, 0, 1), -6);
                t.is("judge(" + tray + ", 0)", new CoinPairs().judge(tray, 0), -6);
                t.is("hours(" + tray + ")", new CoinPairs().hours(tray), -6);
            }
        });
        t.edge(43, trays, "a valley leaves them as they are", () -> {
            CoinPairs x = new CoinPairs();
            Due.tray(x, 0, 15);
            Due.valley(x, LINE);
            t.is("perform(0)", x.perform(0), 1);
            t.is("perform(1)", x.perform(1), -6);
        });
    }

    private void numbersRefused() {
        String no = "-2: no such TRAY, sort;";
        for (int n : new int[] {4, -1, MAX, MIN}) {
            t.edge(43, no, "tray " + n, () -> t.refused("numbers", -2, EdgesOfTrays::worked, x -> x.numbers(n, 0, 1)));
            t.edge(43, no, "sort " + n, () -> t.refused("numbers", -2, EdgesOfTrays::worked, x -> x.numbers(0, n, 1)));
        }
        t.edge(43, no, "ahead of -3", () -> {
            t.is("tray", worked().numbers(4, 0, 41), -2);
            t.is("sort", worked().numbers(0, 4, -1), -2);
        });
        String stays = "-3, and the TRAY stays: n is below 0 or above 40.";
        for (int n : new int[] {41, -1, MAX, MIN}) {
            t.edge(43, stays, n + " numbers", () -> t.refused("numbers", -3, EdgesOfTrays::worked, x -> x.numbers(0, 0, n)));
            t.edge(43, stays, n + " numbers of a tray that is missing", () -> {
                CoinPairs x = new CoinPairs();
                t.is("numbers", x.numbers(0, 0, n), -3);
                t.is("still missing", x.perform(0), -6);
            });
        }
        t.edge(43, stays, "its numbers and its sort stay", () -> {
            CoinPairs x = new CoinPairs();
            Due.tray(x, 0, 15, 16);
            t.is("numbers", x.numbers(0, 0, 41), -3);
            t.is("perform(0)", x.perform(0), 2);
            t.is("write(0, 1, 300)", x.write(0, 1, 300), 300);
        });
    }

    // ---- promise 44

    private void written(int sort, long v, long due) {
        CoinPairs x = new CoinPairs();
        x.numbers(2, sort, 1);
        t.is("write of " + v + ", sort " + sort, x.write(2, 0, v), due);
    }

    private void write() {
        String cut = "Number i of a TRAY is v, cut to its sort: as it is there.";
        t.edge(44, cut, "8 bits, the greatest and one more", () -> {
            written(0, 127, 127);
            written(0, 128, -128);
        });
        t.edge(44, cut, "8 bits, the least and one less", () -> {
            written(0, -128, -128);
            written(0, -129, 127);
        });
        t.edge(44, cut, "8 bits, wrapped around", () -> {
            written(0, 255, -1);
            written(0, 256, 0);
            written(0, Long.MAX_VALUE, -1);
            written(0, Long.MIN_VALUE, 0);
        });
        t.edge(44, cut, "16 bits, the greatest and one more", () -> {
            written(1, 32767, 32767);
            written(1, 32768, -32768);
        });
        t.edge(44, cut, "16 bits, the least and one less", () -> {
            written(1, -32768, -32768);
            written(1, -32769, 32767);
        });
        t.edge(44, cut, "16 bits, wrapped around", () -> {
            written(1, 65535, -1);
            written(1, 65536, 0);
        });
        t.edge(44, cut, "32 bits, the greatest and one more", () -> {
            written(2, MAX, MAX);
            written(2, MAX + 1L, MIN);
        });
        t.edge(44, cut, "32 bits, the least and one less", () -> {
            written(2, MIN, MIN);
            written(2, MIN - 1L, MAX);
        });
        t.edge(44, cut, "32 bits, wrapped around", () -> {
            written(2, (1L << 32) - 1, -1);
            written(2, 1L << 32, 0);
        });
        t.edge(44, cut, "64 bits, the greatest and the least", () -> {
            written(3, Long.MAX_VALUE, Long.MAX_VALUE);
            written(3, Long.MIN_VALUE, Long.MIN_VALUE);
        });
        t.edge(44, cut, "as it is there: cut to a deed", () -> {
            CoinPairs x = new CoinPairs();
            x.numbers(0, 0, 1);
            t.is("write of 256 + 19", x.write(0, 0, 275), 19);
            t.is("perform(0)", x.perform(0), 1);
            t.is("count(4)", x.count(4), 9);
        });
        t.edge(44, cut, "the first and the last, the others stay", () -> {
            CoinPairs x = new CoinPairs();
            Due.tray(x, 0, 15, 15, 15);
            t.is("write(0, 0, 11)", x.write(0, 0, 11), 11);
            t.is("write(0, 2, 0)", x.write(0, 2, 0), 0);
            t.is("perform(0)", x.perform(0), 2);
            t.is("count(4)", x.count(4), 5);
        });
    }

    private void writeRefused() {
        String no = "-2: no such TRAY; -6; -7.";
        for (int tray : new int[] {4, -1, MAX, MIN}) {
            t.edge(44, no, "tray " + tray, () -> t.refused("write", -2, EdgesOfTrays::worked, x -> x.write(tray, 0, 15)));
        }
        t.edge(44, no, "the tray is missing", () -> t.refused("write", -6, EdgesOfTrays::worked, x -> x.write(3, 0, 15)));
        for (int i : new int[] {3, -1, MAX, MIN}) {
            t.edge(44, no, "number " + i + " of 3", () -> t.refused("write", -7, EdgesOfTrays::worked, x -> x.write(0, i, 15)));
        }
        t.edge(44, no, "number 0 of none", () -> {
            CoinPairs x = new CoinPairs();
            x.numbers(0, 0, 0);
            t.is("write(0, 0, 15)", x.write(0, 0, 15), -7);
        });
        t.edge(44, no, "number 40 of 40", () -> t.is("write(2, 40, 15)", worked().write(2, 40, 15), -7));
        t.edge(44, no, "-2 ahead of -6 ahead of -7", () -> {
            t.is("write(4, -1, 15)", worked().write(4, -1, 15), -2);
            t.is("write(3, -1, 15)", worked().write(3, -1, 15), -6);
        });
    }

    // ---- promise 45

    private void lists() {
        String deeds = "DEEDS of the first ROW of fewest CARRYINGS by which a COIN comes to a PLACE come into a TRAY, as far as it has places: how many.";
        t.edge(45, deeds, "just as many as it has places", () -> {
            CoinPairs x = Due.of(LINE);
            x.numbers(0, 1, 4);
            t.is("lists(0, 0, 4)", x.lists(0, 0, 4), 4);
            t.is("perform(0)", x.perform(0), 4);
            t.is("coin(0, 0)", x.coin(0, 0), 4);
        });
        t.edge(45, deeds, "more than it has places", () -> {
            CoinPairs x = Due.of(LINE);
            x.numbers(0, 1, 3);
            t.is("lists(0, 0, 4)", x.lists(0, 0, 4), 3);
            t.is("perform(0)", x.perform(0), 3);
            t.is("coin(0, 0)", x.coin(0, 0), 3);
        });
        t.edge(45, deeds, "fewer than it has places: the others stay", () -> {
            CoinPairs x = Due.of(LINE);
            Due.tray(x, 0, 11, 12, 13);
            t.is("lists(0, 0, 2)", x.lists(0, 0, 2), 2);
            t.is("perform(0)", x.perform(0), 3);
            t.is("coin(0, 0)", x.coin(0, 0), 2);
            t.is("count(4)", x.count(4), 3);
            t.is("count(6)", x.count(6), 2);
        });
        t.edge(45, deeds, "it has no places", () -> {
            CoinPairs x = Due.of(LINE);
            x.numbers(0, 1, 0);
            t.is("lists(0, 0, 4)", x.lists(0, 0, 4), 0);
        });
        t.edge(45, deeds, "it is there: none", () -> {
            CoinPairs x = Due.of(LINE);
            Due.tray(x, 0, 11, 12);
            t.is("lists(0, 0, 0)", x.lists(0, 0, 0), 0);
            t.is("perform(0)", x.perform(0), 2);
            t.is("count(4)", x.count(4), 2);
        });
        t.edge(45, deeds, "forty places", () -> {
            CoinPairs x = Due.of(LINE);
            x.numbers(0, 3, 40);
            t.is("lists(0, 0, 4)", x.lists(0, 0, 4), 4);
            t.is("judge(0, 0)", x.judge(0, 0), 4);
        });
        t.edge(45, deeds, "the first row, as way() tells it", () -> {
            CoinPairs x = Due.of(Told.head(4, 0) + Told.roads(0, 2, 1, 0, 1, 1, 1, 3, 1, 2, 3, 1) + Told.alike(3, 1) + Told.coins(0, 0, 0));
            x.numbers(0, 1, 1);
            x.lists(0, 0, 3);
            x.perform(0);
            t.is("coin(0, 0)", x.coin(0, 0), 1);
        });
        t.edge(45, deeds, "cut to 8 bits", () -> {
            CoinPairs x = Due.of(LINE);
            x.numbers(0, 0, 1);
            t.is("lists(0, 0, 1)", x.lists(0, 0, 1), 1);
            t.is("10101 is 117 then: no such person", x.judge(0, 1), 1);
        });
        t.edge(45, deeds, "nothing is done but in the tray", () -> {
            CoinPairs x = Due.of(LINE);
            x.numbers(0, 1, 4);
            x.lists(0, 0, 4);
            t.is("coin(0, 0)", x.coin(0, 0), 0);
            t.is("count(8)", x.count(8), 0);
        });
    }

    private static CoinPairs tray() {
        CoinPairs x = Due.of(LINE);
        Due.tray(x, 0, 11, 12);
        return x;
    }

    private void listsRefused() {
        String no = "-2: the TRAY, the COIN, the PLACE; -6;";
        for (int tray : new int[] {4, -1, MAX, MIN}) {
            t.edge(45, no, "tray " + tray, () -> t.refused("lists", -2, EdgesOfTrays::tray, x -> x.lists(tray, 0, 1)));
        }
        for (int c : new int[] {1, -1, MAX, MIN}) {
            t.edge(45, no, "coin " + c, () -> t.refused("lists", -2, EdgesOfTrays::tray, x -> x.lists(0, c, 1)));
        }
        for (int to : new int[] {6, -1, MAX, MIN}) {
            t.edge(45, no, "place " + to, () -> t.refused("lists", -2, EdgesOfTrays::tray, x -> x.lists(0, 0, to)));
        }
        t.edge(45, no, "the tray is missing", () -> t.refused("lists", -6, EdgesOfTrays::tray, x -> x.lists(3, 0, 1)));
        t.edge(45, no, "-2 ahead of -6", () -> {
            t.is("coin", tray().lists(3, 1, 1), -2);
            t.is("place", tray().lists(3, 0, 6), -2);
        });
        String cant = "-5: it can't.";
        t.edge(45, cant, "no way leads there, the tray stays", () -> t.refused("lists", -5, EdgesOfTrays::tray, x -> x.lists(0, 0, 5)));
        t.edge(45, cant, "-6 ahead of -5", () -> t.is("lists(3, 0, 5)", tray().lists(3, 0, 5), -6));
        t.edge(45, cant, "also if the tray has no places", () -> {
            CoinPairs x = tray();
            x.numbers(0, 0, 0);
            t.is("lists(0, 0, 5)", x.lists(0, 0, 5), -5);
        });
    }

    // ---- promises 46 and 47

    private void image() {
        String made = "An IMAGE is made: 0.";
        t.edge(46, made, "image 0 and image 1", () -> {
            CoinPairs x = new CoinPairs();
            t.is("image(0)", x.image(0), 0);
            t.is("image(1)", x.image(1), 0);
        });
        t.edge(46, made, "the one leaves the other one", () -> {
            CoinPairs x = new CoinPairs();
            x.hour(1);
            x.image(0);
            x.hour(2);
            x.image(1);
            x.hour(3);
            t.is("restore(0)", x.restore(0), 0);
            t.is("count(4)", x.count(4), 1);
            t.is("restore(1)", x.restore(1), 0);
            t.is("then count(4)", x.count(4), 2);
        });
        t.edge(46, made, "in place of an earlier one", () -> {
            CoinPairs x = new CoinPairs();
            x.hour(1);
            x.image(0);
            x.hour(2);
            x.image(0);
            x.hour(3);
            x.restore(0);
            t.is("count(4)", x.count(4), 2);
        });
        t.edge(46, made, "of a new object", () -> {
            CoinPairs x = new CoinPairs();
            x.image(0);
            Due.valley(x, ValleyTest.FOUR);
            x.restore(0);
            int[] due = {1, 0, 0, 0, 0, 0, 0, 0, 0, 0, 0};
            for (int what = 0; what <= 10; what++) {
                t.is("count(" + what + ")", x.count(what), due[what]);
            }
        });
        t.edge(46, made, "nothing else is changed, what can be undone neither", () -> {
            CoinPairs x = worked();
            CoinPairs y = worked();
            x.image(0);
            for (int what = 0; what <= 10; what++) {
                t.is("count(" + what + ")", x.count(what), y.count(what));
            }
            t.is("undo(5)", x.undo(5), 0);
            t.is("count(4)", x.count(4), 2);
        });
    }

    private void restore() {
        String was = "All that is in an IMAGE is as it was: 0.";
        String images = "IMAGES 0 to 1: THE VALLEY and what a call could bring back by UNDOING; nothing can be UNDONE behind (none at first).";
        t.edge(47, was, "the valley: places, roads, people, coins, laws, lines", () -> {
            CoinPairs x = Due.of(ValleyTest.FOUR + "may:strong>6;wears:8;");
            x.image(1);
            Due.valley(x, LINE + "may:1=1;");
            t.is("restore(1)", x.restore(1), 0);
            int[] due = {4, 3, 4, 2, 2, 1, 0, 0, 0, 0, 13};
            for (int what = 0; what <= 10; what++) {
                t.is("count(" + what + ")", x.count(what), due[what]);
            }
            t.is("far(0, 2)", x.far(0, 2), 5);
            t.is("road(2, 2)", x.road(2, 2), 7);
            t.is("person(2, 1)", x.person(2, 1), 5);
            t.is("coin(1, 1)", x.coin(1, 1), 9);
            t.is("worn", x.worn(0, 1, 0, 1), 8);
            t.is("why", x.why(1, 3, 0, 1), 4);
        });
        t.edge(47, images, "where coins are, how worn, quarrels, hour, how many were carried", () -> {
            CoinPairs x = Due.of(ValleyTest.FOUR);
            x.carry(0, 1, 0, 1);
            x.hour(7);
            x.quarrel(1, 3);
            x.image(0);
            x.carry(0, 1, 0, 2);
            x.hour(8);
            x.quarrel(1, 3);
            x.quarrel(0, 2);
            x.restore(0);
            t.is("where", x.coin(0, 0), 1);
            t.is("worn", x.coin(0, 3), 2);
            t.is("quarrels of 1", x.person(1, 2), 8);
            t.is("quarrels of 0", x.person(0, 2), 4);
            t.is("hour", x.count(4), 7);
            t.is("carried", x.count(6), 1);
        });
        t.edge(47, images, "nothing can be undone behind", () -> {
            CoinPairs x = new CoinPairs();
            x.hour(1);
            x.image(0);
            x.hour(2);
            x.restore(0);
            t.is("count(8)", x.count(8), 0);
            t.is("undo(1)", x.undo(1), -3);
        });
        t.edge(47, images, "deeds behind it can be", () -> {
            CoinPairs x = new CoinPairs();
            x.hour(1);
            x.image(0);
            x.restore(0);
            x.hour(5);
            t.is("undo(1)", x.undo(1), 0);
            t.is("count(4)", x.count(4), 1);
        });
        t.edge(47, was, "again and again", () -> {
            CoinPairs x = new CoinPairs();
            x.hour(1);
            x.image(0);
            for (int i = 0; i < 3; i++) {
                x.hour(9);
                t.is("restore(0)", x.restore(0), 0);
                t.is("count(4)", x.count(4), 1);
            }
        });
        t.edge(47, was, "what isn't in it stays: trays, the tape, the latest fault", () -> {
            CoinPairs x = new CoinPairs();
            x.image(0);
            Due.tray(x, 0, 15);
            Due.valley(x, "#");
            Due.feed(x, "valley");
            x.restore(0);
            t.is("perform(0)", x.perform(0), 1);
            t.is("count(9)", x.count(9), 20);
            t.is("fault(0)", x.fault(0), 1);
        });
    }

    private void imagesRefused() {
        for (int i : new int[] {2, -1, MAX, MIN}) {
            t.edge(46, "-2.", "image " + i, () -> t.refused("image", -2, EdgesOfTrays::worked, x -> x.image(i)));
            t.edge(47, "-2;", "image " + i, () -> t.refused("restore", -2, EdgesOfTrays::worked, x -> x.restore(i)));
        }
        String none = "-5: none was made.";
        t.edge(47, none, "none at all", () -> {
            t.refused("restore(0)", -5, CoinPairs::new, x -> x.restore(0));
            t.refused("restore(1)", -5, CoinPairs::new, x -> x.restore(1));
        });
        t.edge(47, none, "the other one was", () -> t.refused("restore(0)", -5, EdgesOfTrays::worked, x -> x.restore(0)));
        t.edge(47, none, "a valley doesn't forget one", () -> {
            CoinPairs x = worked();
            x.valley(0);
            Due.valley(x, LINE);
            t.is("restore(1)", x.restore(1), 0);
        });
    }

    // ---- promise 48

    private void count() {
        String counts = "0 PLACES, 1 roads, 2 people, 3 COINS, 4 HOUR, 5 quarrels there are, 6 how many were CARRIED, 7 how WORN all are together, 8 calls that can be UNDONE, 9 bytes on THE TAPE, 10 LINES.";
        t.edge(48, counts, "nothing was told or done", () -> {
            int[] due = {1, 0, 0, 0, 0, 0, 0, 0, 0, 0, 0};
            for (int what = 0; what <= 10; what++) {
                t.is("count(" + what + ")", new CoinPairs().count(what), due[what]);
            }
        });
        t.edge(48, counts, "each of them, all unlike", () -> {
            CoinPairs x = Due.of(Told.head(5, 9) + Told.roads(0, 1, 7) + Told.alike(4, 9) + Told.quarrels(0, 1, 0, 2, 0, 3)
                + Told.coins(0, 0, 0, 0, 0, 0));
            x.carry(1, 2, 0, 1);
            x.carry(1, 2, 1, 1);
            x.carry(1, 2, 1, 0);
            x.carry(1, 2, 1, 1);
            x.hour(8);
            x.hour(7);
            x.hour(6);
            Due.feed(x, "valley");
            int[] due = {5, 1, 4, 2, 6, 3, 4, 28, 7, 20, 11};
            for (int what = 0; what <= 10; what++) {
                t.is("count(" + what + ")", x.count(what), due[what]);
            }
        });
        t.edge(48, counts, "as many as can be of what is told", () -> {
            CoinPairs x = Due.of(Told.head(6, 9) + Told.roads(0, 1, 1).repeat(9) + Told.friends(8) + Told.coins(0, 0, 0).repeat(4));
            int[] due = {6, 9, 8, 4, 9, 28};
            for (int what = 0; what < due.length; what++) {
                t.is("count(" + what + ")", x.count(what), due[what]);
            }
            t.is("count(10)", x.count(10), 1 + 9 + 8 + 28 + 4);
        });
        t.edge(48, counts, "10 calls that can be undone, 900 bytes on the tape", () -> {
            CoinPairs x = new CoinPairs();
            for (int i = 0; i < 12; i++) {
                x.hour(i % 10);
            }
            for (int i = 0; i < 46; i++) {
                x.feed(0, 0, 0, 0, 0);
            }
            t.is("count(8)", x.count(8), 10);
            t.is("count(9)", x.count(9), 900);
        });
        t.edge(48, counts, "quarrels there are: begun and made up", () -> {
            CoinPairs x = Due.of(ValleyTest.FOUR);
            x.quarrel(0, 1);
            t.is("count(5)", x.count(5), 2);
            x.quarrel(0, 2);
            x.quarrel(0, 1);
            t.is("then count(5)", x.count(5), 0);
        });
        t.edge(48, counts, "carried and worn by deeds of trays and years, too", () -> {
            CoinPairs x = Due.of(LINE);
            Due.tray(x, 0, 10101, 10100);
            x.perform(0);
            t.is("count(6)", x.count(6), 2);
            t.is("count(7)", x.count(7), 2);
        });
    }

    private void countOthers() {
        for (int what : new int[] {11, -1, MAX, MIN}) {
            t.edge(48, "NONE for others.", "what is " + what, () -> t.is("count", worked().count(what), -1));
        }
    }

    // ---- what holds for all calls

    private void refusals() {
        String refused = "Refused calls answer by a code and change nothing:";
        t.edge(48, refused, "one after another, of each call that changes something", () -> {
            CoinPairs x = worked();
            x.feed(0, 0, 0, 0, 0);
            CoinPairs y = worked();
            y.feed(0, 0, 0, 0, 0);
            x.valley(41);
            x.carry(0, 3, 0, 2);
            x.quarrel(2, 2);
            x.hour(10);
            x.undo(11);
            x.perform(3);
            x.year(1, 41);
            x.numbers(0, 0, 41);
            x.write(0, 3, 15);
            x.lists(0, 0, 3);
            x.image(2);
            x.restore(0);
            t.is("all as it was", Seen.all(x).equals(Seen.all(y)) ? 1 : 0, 1);
        });
        String codes = "-2 there is none such; -3 a number can't be; -4 too many; -5 it can't be now; -6 a TRAY is MISSING; -7 it has no such number; -11 to -14 why not (1 to 4); -30 less the FAULT: a text.";
        t.edge(48, codes, "each of them", () -> {
            CoinPairs x = worked();
            t.is("none such", x.coin(9, 0), -2);
            t.is("a number can't be", x.undo(0), -3);
            t.is("too many", x.hours(2), -4);
            t.is("it can't be now", x.restore(0), -5);
            t.is("a tray is missing", x.perform(3), -6);
            t.is("no such number", x.write(0, 3, 0), -7);
            t.is("why not 1", x.carry(0, 0, 0, 2), -11);
            t.is("why not 2", x.carry(0, 1, 0, 1), -12);
            t.is("why not 3", x.carry(0, 2, 0, 2), -13);
            t.is("why not 4", x.carry(0, 3, 0, 2), -14);
            t.is("a text", x.valley(20), -32);
        });
        String several = "(Of several that which the call tells first; all these ahead of NONE.)";
        t.edge(48, several, "-2 ahead of -3", () -> {
            CoinPairs x = worked();
            t.is("way(2, 0, -1)", x.way(2, 0, -1), -2);
            t.is("rows(0, 4, 9)", x.rows(0, 4, 9), -2);
            t.is("pays(4, -1, 0)", x.pays(4, -1, 0), -2);
            t.is("with(100, 4)", x.with(100, 4), -2);
            t.is("lifters(100, 2)", x.lifters(100, 2), -2);
            t.is("rests(9, 3)", x.rests(9, 3), -2);
            t.is("lifting(16, 9, -1)", x.lifting(16, 9, -1), -2);
            t.is("talk(4, 9)", x.talk(4, 9), -2);
            t.is("numbers(4, 0, 41)", x.numbers(4, 0, 41), -2);
        });
        t.edge(48, several, "-2 ahead of -6, -6 ahead of what comes behind", () -> {
            CoinPairs x = worked();
            t.is("judge(3, 4)", x.judge(3, 4), -2);
            t.is("attempt(3, 2, 0)", x.attempt(3, 2, 0), -2);
            t.is("lists(3, 0, 4)", x.lists(3, 0, 4), -2);
            t.is("lists(3, 0, 3)", x.lists(3, 0, 3), -6);
            t.is("write(3, 99, 0)", x.write(3, 99, 0), -6);
            t.is("who(3, 0, -1)", x.who(3, 0, -1), -6);
        });
        t.edge(48, several, "all ahead of NONE", () -> {
            CoinPairs x = worked();
            t.is("way(0, 3, -1)", x.way(0, 3, -1), -3);
            t.is("pays(3, 1000, 0)", x.pays(3, 1000, 0), -3);
            t.is("guards(0, 0, 2)", x.guards(0, 0, 2), -2);
            t.is("lifters(-1, 0)", x.lifters(-1, 0), -3);
            t.is("wornFirst(1, 0, -1)", x.wornFirst(1, 0, -1), -3);
            t.is("best(0, 4)", x.best(0, 4), -2);
        });
    }
}
