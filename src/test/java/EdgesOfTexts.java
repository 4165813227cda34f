/** Boundary cases of promises 1 to 4: a new object, the tape, texts and their faults. */
final class EdgesOfTexts {
    private static final String HEAD = "valley places 2 hour 1;";
    private static final int AT = HEAD.length();
    private static final String PAIR = Told.people(0, 1, 0, 1);

    private final Edges t;

    private EdgesOfTexts(Edges t) {
        this.t = t;
    }

    static void all(Edges t) {
        EdgesOfTexts e = new EdgesOfTexts(t);
        e.newObject();
        e.feed();
        e.feedRefused();
        e.valley();
        e.valleyTellsLess();
        e.valleyRefused();
        e.fault();
        e.linesOfATextLeftOut();
        e.head();
        e.roads();
        e.people();
        e.quarrels();
        e.coins();
        e.laws();
        e.sums();
        e.truths();
        e.nesting();
        e.tokens();
        e.signs();
        e.firstFault();
        e.kinds();
    }

    // ---- promise 1

    private void newObject() {
        String without = "(without one: 1 PLACE, HOUR 0, nobody, no COINS)";
        t.edge(1, "1 PLACE.", "there is place 0 and no place 1", () -> {
            CoinPairs x = new CoinPairs();
            t.is("count(0)", x.count(0), 1);
            t.is("far(0, 0)", x.far(0, 0), 0);
            t.is("far(0, 1)", x.far(0, 1), -2);
        });
        t.edge(1, without, "1 place, no roads", () -> {
            CoinPairs x = new CoinPairs();
            t.is("count(0)", x.count(0), 1);
            t.is("count(1)", x.count(1), 0);
            t.is("road(0, 0)", x.road(0, 0), -2);
        });
        t.edge(1, without, "hour 0", () -> {
            CoinPairs x = new CoinPairs();
            t.is("count(4)", x.count(4), 0);
            t.is("hour(9)", x.hour(9), 0);
        });
        t.edge(1, without, "nobody", () -> {
            CoinPairs x = new CoinPairs();
            t.is("count(2)", x.count(2), 0);
            t.is("count(5)", x.count(5), 0);
            t.is("person(0, 0)", x.person(0, 0), -2);
            t.is("quarrel(0, 1)", x.quarrel(0, 1), -11);
        });
        t.edge(1, without, "no coins", () -> {
            CoinPairs x = new CoinPairs();
            t.is("count(3)", x.count(3), 0);
            t.is("coin(0, 0)", x.coin(0, 0), -2);
        });
        t.edge(1, without, "no line, nothing worn, carried, to be undone, on the tape", () -> {
            CoinPairs x = new CoinPairs();
            for (int what = 5; what <= 10; what++) {
                t.is("count(" + what + ")", x.count(what), 0);
            }
        });
        t.edge(1, "`NONE = -1`: There is none.", "the constant", () -> t.is("NONE", CoinPairs.NONE, -1));
        t.edge(1, "The constants:", "there is no other one", () -> {
            int open = CoinPairs.class.getFields().length;
            t.is("public constants", open, 1);
        });
        t.edge(1, "An object is used for at most 512 calls after it has been made; what later calls answer is free.",
            "the 512th call is answered as all", () -> {
                CoinPairs x = Due.of(HEAD);
                for (int call = 3 + 1; call < 512; call++) {
                    t.is("hour in call " + call, x.hour(call % 10), call == 4 ? 1 : (call - 1) % 10);
                }
                t.is("undo in call 512", x.undo(10), 0);
            });
    }

    // ---- promise 2

    private void feed() {
        String bytes = "Twenty bytes come behind those on THE TAPE, the highest of each int first: how many it has.";
        t.edge(2, bytes, "behind none", () -> {
            CoinPairs x = new CoinPairs();
            t.is("feed", x.feed(0, 0, 0, 0, 0), 20);
            t.is("count(9)", x.count(9), 20);
        });
        t.edge(2, bytes, "the highest of each int first", () -> {
            CoinPairs x = new CoinPairs();
            x.feed(0x76616c6c, 0x65792070, 0x6c616365, 0x73203320, 0x686f7572);
            x.feed(0x20373b20, 0x20202020, 0x20202020, 0x20202020, 0x20202020);
            t.is("valley places 3 hour 7;", x.valley(40), 1);
            t.is("places", x.count(0), 3);
            t.is("hour", x.count(4), 7);
        });
        t.edge(2, bytes, "behind those that are there", () -> {
            CoinPairs x = new CoinPairs();
            x.feed(0, 0, 0, 0, 0);
            t.is("a second feed", x.feed(0, 0, 0, 0, 0), 40);
            t.is("the first byte of all is a fault", x.valley(40), -31);
            t.is("its place", x.fault(1), 0);
        });
        t.edge(2, bytes, "the first and the last of the twenty are told apart", () -> {
            CoinPairs x = new CoinPairs();
            x.feed(0x20202020, 0x20202020, 0x20202020, 0x20202020, 0x20202023);
            t.is("the last byte", x.valley(20), -31);
            t.is("its place", x.fault(1), 19);
            x.feed(0x23202020, 0x20202020, 0x20202020, 0x20202020, 0x20202020);
            t.is("the first byte", x.valley(20), -31);
            t.is("its place", x.fault(1), 0);
        });
        t.edge(2, bytes, "ints below 0, bytes above 127", () -> {
            CoinPairs x = new CoinPairs();
            t.is("feed", x.feed(-1, Integer.MIN_VALUE, -1, -1, -1), 20);
            t.is("valley(20)", x.valley(20), -31);
            t.is("its place", x.fault(1), 0);
        });
    }

    /** The tape filled up by a valley of one line and blanks. */
    private static CoinPairs full() {
        CoinPairs x = new CoinPairs();
        Due.feed(x, HEAD + " ".repeat(900 - AT));
        return x;
    }

    private void feedRefused() {
        String tooMany = "-5: it would have more than 900.";
        t.edge(2, tooMany, "just 900 are not too many", () -> {
            CoinPairs x = new CoinPairs();
            for (int i = 1; i <= 45; i++) {
                t.is("feed " + i, x.feed(0x20202020, 0x20202020, 0x20202020, 0x20202020, 0x20202020), 20 * i);
            }
        });
        t.edge(2, tooMany, "a 46th feeding",
            () -> t.refused("feed", -5, EdgesOfTexts::full, x -> x.feed(1, 2, 3, 4, 5)));
        t.edge(2, tooMany, "what was there is still read behind it", () -> {
            CoinPairs x = full();
            t.is("feed", x.feed(0, 0, 0, 0, 0), -5);
            t.is("count(9)", x.count(9), 900);
            t.is("valley(900)", x.valley(900), 1);
        });
        t.edge(2, tooMany, "behind valley() there is room again", () -> {
            CoinPairs x = full();
            x.valley(AT);
            t.is("feed", x.feed(0, 0, 0, 0, 0), 20);
        });
    }

    // ---- promise 3

    private void valley() {
        String first = "The first n bytes of THE TAPE (which is empty then) are THE VALLEY";
        t.edge(3, first, "what is behind them is not looked at", () -> {
            CoinPairs x = new CoinPairs();
            Due.feed(x, HEAD + "#");
            t.is("valley", x.valley(AT), 1);
        });
        t.edge(3, first, "one byte less", () -> {
            CoinPairs x = new CoinPairs();
            Due.feed(x, HEAD);
            t.is("valley", x.valley(AT - 1), -32);
            t.is("its place", x.fault(1), AT - 1);
        });
        t.edge(3, first, "no byte", () -> {
            CoinPairs x = new CoinPairs();
            Due.feed(x, HEAD);
            t.is("valley(0)", x.valley(0), -32);
            t.is("its place", x.fault(1), 0);
        });
        t.edge(3, first, "no byte of an empty tape", () -> t.fault("", 2, 0));
        t.edge(3, first, "all that there are", () -> {
            CoinPairs x = new CoinPairs();
            Due.feed(x, HEAD + "a");
            t.is("valley(40)", x.valley(40), -32);
        });
        t.edge(3, first, "it is empty then, also what was behind them", () -> {
            CoinPairs x = new CoinPairs();
            Due.feed(x, HEAD + HEAD);
            x.valley(AT);
            t.is("count(9)", x.count(9), 0);
            t.is("valley(1)", x.valley(1), -3);
        });
        t.edge(3, first, "it is empty then with a fault, too", () -> {
            CoinPairs x = new CoinPairs();
            t.is("a fault", Due.valley(x, "#"), -31);
            t.is("count(9)", x.count(9), 0);
        });
        t.edge(3, "THE VALLEY is a TEXT of at most 900 bytes", "the 900th is read", () -> {
            String text = HEAD + " ".repeat(900 - AT - 8) + "may:1=1;";
            t.lines(text, 2);
            t.fault(text.substring(0, 899), 2, 899);
            t.fault(text.substring(0, 899) + "#", 1, 899);
        });
        valleyAnew();
        String lines = "how many LINES (valley, too; all stays with a FAULT).";
        t.edge(3, lines, "valley alone is one", () -> {
            CoinPairs x = new CoinPairs();
            t.is("valley", Due.valley(x, HEAD), 1);
            t.is("count(10)", x.count(10), 1);
        });
        t.edge(3, lines, "of each text for itself, also behind one with a fault", () -> {
            CoinPairs x = new CoinPairs();
            t.is("three", Due.valley(x, HEAD + PAIR), 3);
            t.is("one", Due.valley(x, HEAD), 1);
            t.is("a fault", Due.valley(x, HEAD + PAIR + "#"), -31);
            t.is("count(10)", x.count(10), 1);
            t.is("two", Due.valley(x, HEAD + "may:1=1;"), 2);
            t.is("then count(10)", x.count(10), 2);
        });
        t.edge(3, lines, "as many as 900 bytes have", () -> {
            String text = HEAD + PAIR + "quarrel 0 1;".repeat(69);
            t.is("its length", text.length(), 893);
            t.lines(text, 1 + 2 + 69);
        });
        t.edge(3, lines, "all stays with a fault", () -> {
            CoinPairs x = worked();
            CoinPairs y = worked();
            t.is("valley", Due.valley(x, HEAD + Told.roads(0, 1, 4) + PAIR + "quarrel 0 1;coin at 1 weight 7 worth 7;may"), -32);
            for (int what = 0; what <= 10; what++) {
                t.is("count(" + what + ")", x.count(what), y.count(what));
            }
            t.is("where", x.coin(0, 0), y.coin(0, 0));
            t.is("how long", x.road(0, 2), y.road(0, 2));
            t.is("quarrels", x.person(0, 2), y.person(0, 2));
            t.is("law", x.worn(1, 3, 0, 2), y.worn(1, 3, 0, 2));
            t.is("undone", x.undo(2), 0);
            t.is("hour then", x.count(4), 2);
        });
    }

    /** A valley in which there were deeds. */
    private static CoinPairs worked() {
        CoinPairs x = Due.of(ValleyTest.FOUR);
        x.carry(0, 1, 0, 1);
        x.hour(7);
        return x;
    }

    private void valleyAnew() {
        String anew = "COINS are WORN 0, nothing was CARRIED, nothing can be UNDONE";
        t.edge(3, anew, "coins are worn 0", () -> {
            CoinPairs x = worked();
            t.is("worn before", x.count(7), 2);
            Due.valley(x, ValleyTest.FOUR);
            t.is("count(7)", x.count(7), 0);
            t.is("coin(0, 3)", x.coin(0, 3), 0);
            t.is("coin(0, 0)", x.coin(0, 0), 0);
        });
        t.edge(3, anew, "nothing was carried", () -> {
            CoinPairs x = worked();
            Due.valley(x, ValleyTest.FOUR);
            t.is("count(6)", x.count(6), 0);
        });
        t.edge(3, anew, "nothing can be undone", () -> {
            CoinPairs x = worked();
            Due.valley(x, ValleyTest.FOUR);
            t.is("count(8)", x.count(8), 0);
            t.is("undo(1)", x.undo(1), -3);
        });
        t.edge(3, anew, "what was told before is gone", () -> {
            CoinPairs x = Due.of(ValleyTest.FOUR + "may:1=1;wears:5;");
            Due.valley(x, HEAD + Told.roads(0, 1, 3) + Told.people(0, 1, 0, 1) + Told.coins(0, 2, 0, 0, 3, 0));
            t.is("places", x.count(0), 2);
            t.is("roads", x.count(1), 1);
            t.is("people", x.count(2), 2);
            t.is("quarrels", x.count(5), 0);
            t.is("hour", x.count(4), 1);
            t.is("far(0, 1)", x.far(0, 1), 3);
            t.is("no law may", x.why(0, 1, 1, 1), 4);
            t.is("no law wears", x.worn(0, 1, 0, 1), 3);
        });
    }

    /** What a text told leaves nothing where a later one tells less. */
    private void valleyTellsLess() {
        String anew = "are THE VALLEY, COINS are WORN 0";
        t.edge(3, anew, "laws told before are gone, also where they were longer", () -> {
            CoinPairs x = new CoinPairs();
            Due.valley(x, HEAD + "may:not 1=1;wears:1+2*3-4;");
            Due.valley(x, HEAD + Told.roads(0, 1, 1) + PAIR + Told.coins(0, 0, 0) + "may:1=1;");
            t.is("why", x.why(0, 1, 0, 1), 0);
            t.is("worn", x.worn(0, 1, 0, 1), 1);
        });
        t.edge(3, anew, "roads told before are gone", () -> {
            CoinPairs x = new CoinPairs();
            Due.valley(x, Told.head(3, 0) + Told.roads(0, 1, 5, 0, 1, 1, 1, 2, 1));
            Due.valley(x, Told.head(3, 0) + Told.roads(0, 1, 5) + PAIR + Told.coins(0, 0, 0) + "may:long<3;");
            t.is("far(0, 1)", x.far(0, 1), 5);
            t.is("far(0, 2)", x.far(0, 2), 99);
            t.is("why", x.why(0, 1, 0, 1), 4);
            t.is("chance", x.chance(0, 1, 0), 0);
        });
        t.edge(3, anew, "ways along roads told before are gone", () -> {
            CoinPairs x = new CoinPairs();
            Due.valley(x, Told.head(3, 0) + Told.roads(0, 1, 5, 1, 2, 1) + PAIR + Told.coins(0, 0, 0));
            t.is("guards", x.guards(0, 2, 0), 1);
            t.is("by", x.by(0, 2), 2);
            Due.valley(x, Told.head(3, 0) + Told.roads(0, 1, 5) + PAIR + Told.coins(0, 0, 0));
            t.is("then guards", x.guards(0, 2, 0), 0);
            t.is("then by", x.by(0, 2), -1);
            t.is("then reach", x.reach(0), 3);
        });
        t.edge(3, anew, "places told before are gone", () -> {
            CoinPairs x = new CoinPairs();
            Due.tray(x, 0, 1);
            Due.valley(x, Told.head(6, 0) + Told.roads(0, 2, 1) + Told.alike(3, 1) + Told.coins(0, 0, 0));
            t.is("wornFirst", x.wornFirst(0, 0, 0), 10102);
            Due.valley(x, Told.head(2, 0) + Told.roads(0, 1, 1) + Told.alike(3, 1) + Told.quarrels(0, 1) + Told.coins(0, 0, 0)
                + "may:1=1;");
            t.is("then wornFirst", x.wornFirst(0, 0, 0), 10201);
            x.quarrel(1, 2);
            t.is("then who", x.who(0, 0, 0), 5);
            t.is("then way", x.way(0, 1, 0), 10201);
            t.is("then rows", x.rows(0, 1, 1), 1);
        });
        t.edge(3, anew, "people, quarrels and coins told before are gone", () -> {
            CoinPairs x = new CoinPairs();
            Due.valley(x, Told.head(2, 0) + Told.alike(8, 9) + Told.quarrels(0, 1, 6, 7) + Told.coins(1, 1, 50).repeat(4));
            Due.valley(x, Told.head(2, 0) + Told.alike(3, 1) + Told.coins(0, 0, 3));
            t.is("person(0, 2)", x.person(0, 2), 0);
            t.is("person(3, 0)", x.person(3, 0), -2);
            t.is("pairs", x.pairs(0), 1);
            t.is("lifters", x.lifters(4, 0), -1);
            t.is("talk", x.talk(0, 8), 7);
            t.is("camps", x.camps(1), 7);
            t.is("coin(1, 0)", x.coin(1, 0), -2);
            t.is("pays", x.pays(1, 0, 0), 0);
            t.is("pays", x.pays(0, 53, 2), -1);
        });
    }

    private void valleyRefused() {
        String cant = "-3: n is below 0 or above what there is (THE TAPE stays)";
        t.edge(3, cant, "n is -1", () -> t.refused("valley(-1)", -3, EdgesOfTexts::full, x -> x.valley(-1)));
        t.edge(3, cant, "n is the least int",
            () -> t.refused("valley", -3, EdgesOfTexts::full, x -> x.valley(Integer.MIN_VALUE)));
        t.edge(3, cant, "one more than 900", () -> t.refused("valley(901)", -3, EdgesOfTexts::full, x -> x.valley(901)));
        t.edge(3, cant, "the greatest int",
            () -> t.refused("valley", -3, EdgesOfTexts::full, x -> x.valley(Integer.MAX_VALUE)));
        t.edge(3, cant, "one of none", () -> t.refused("valley(1)", -3, CoinPairs::new, x -> x.valley(1)));
        t.edge(3, cant, "the tape stays and can be read", () -> {
            CoinPairs x = new CoinPairs();
            Due.feed(x, HEAD);
            t.is("valley(41)", x.valley(41), -3);
            t.is("count(9)", x.count(9), 40);
            t.is("valley", x.valley(AT), 1);
        });
        String code = "-30 less the FAULT.";
        t.edge(3, code, "1", () -> t.is("valley", Due.valley(new CoinPairs(), "#"), -31));
        t.edge(3, code, "2", () -> t.is("valley", Due.valley(new CoinPairs(), "x"), -32));
        t.edge(3, code, "3", () -> t.is("valley", Due.valley(new CoinPairs(), "valley places 7 hour 0;"), -33));
        t.edge(3, code, "4", () -> t.is("valley", Due.valley(new CoinPairs(), HEAD + Told.coins(0, 0, 0).repeat(5)), -34));
    }

    // ---- promise 4

    private void fault() {
        String of = "Of the latest valley() that was read, what 0: its FAULT (0), 1: its place (NONE).";
        t.edge(4, of, "none was read", () -> {
            CoinPairs x = new CoinPairs();
            t.is("fault(0)", x.fault(0), 0);
            t.is("fault(1)", x.fault(1), -1);
        });
        t.edge(4, of, "one without a fault behind one with a fault", () -> {
            CoinPairs x = new CoinPairs();
            Due.valley(x, " #");
            t.is("fault(0)", x.fault(0), 1);
            t.is("fault(1)", x.fault(1), 1);
            Due.valley(x, HEAD);
            t.is("then fault(0)", x.fault(0), 0);
            t.is("then fault(1)", x.fault(1), -1);
        });
        t.edge(4, of, "one with a fault behind another one", () -> {
            CoinPairs x = new CoinPairs();
            Due.valley(x, "#");
            Due.valley(x, HEAD + "road 5");
            t.is("fault(0)", x.fault(0), 3);
            t.is("fault(1)", x.fault(1), AT + 5);
        });
        t.edge(4, of, "valley() by which none was read", () -> {
            CoinPairs x = new CoinPairs();
            Due.valley(x, " #");
            t.is("valley(1)", x.valley(1), -3);
            t.is("fault(0)", x.fault(0), 1);
            t.is("fault(1)", x.fault(1), 1);
        });
        t.edge(4, of, "deeds, undoing and images leave it", () -> {
            CoinPairs x = new CoinPairs();
            x.image(0);
            Due.valley(x, " #");
            x.hour(1);
            x.undo(1);
            x.restore(0);
            t.is("fault(0)", x.fault(0), 1);
            t.is("fault(1)", x.fault(1), 1);
        });
        String others = "NONE for others.";
        for (int what : new int[] {2, -1, Integer.MAX_VALUE, Integer.MIN_VALUE}) {
            t.edge(4, others, "what is " + what, () -> {
                CoinPairs x = new CoinPairs();
                Due.valley(x, HEAD + "road 5");
                t.is("fault", x.fault(what), -1);
            });
        }
    }

    // ---- what a text may tell

    /** Each token left out in turn: the one behind it can't stand there (of two N the one behind both). */
    private void leftOut(String head, String... tokens) {
        for (int out = 0; out < tokens.length; out++) {
            StringBuilder text = new StringBuilder(head);
            int place = 0;
            for (int i = 0; i < tokens.length; i++) {
                if (i == out) {
                    place = text.length();
                } else {
                    text.append(tokens[i]).append(' ');
                }
            }
            boolean oneN = out + 1 < tokens.length && isN(tokens[out]) && isN(tokens[out + 1]);
            t.fault(text.toString(), 2, oneN ? place + tokens[out + 1].length() + 1 : place);
            endedAt(text, place);
        }
    }

    /** Ahead of a line there may be the end, elsewhere not. */
    private void endedAt(StringBuilder text, int place) {
        String ended = text.substring(0, place);
        if (!ended.endsWith(";")) {
            t.fault(ended, 2, place);
        }
    }

    private static boolean isN(String token) {
        return Character.isDigit(token.charAt(0));
    }

    private void linesOfATextLeftOut() {
        String text = "valley places N hour N ; { LINE ; }";
        t.edge(3, text, "no line", () -> t.lines(HEAD, 1));
        t.edge(3, text, "a token is left out", () -> leftOut("", "valley", "places", "2", "hour", "1", ";"));
        t.edge(3, text, "the last line's ; is left out", () -> t.fault(HEAD + "road 0 1 long 1", 2, AT + 15));
        t.edge(3, text, "an empty line", () -> t.fault(HEAD + ";", 2, AT));
        t.edge(3, text, "no such line", () -> t.fault(HEAD + "roads 0 1 long 1;", 2, AT));
        t.edge(3, text, "a line's first word as far as it goes", () -> t.fault(HEAD + "roa 0 1 long 1;", 2, AT));
        String line = "LINE: road N N long N | person at N strong N | quarrel N N | coin at N weight N worth N | may : TRUTH | wears : SUM.";
        t.edge(3, line, "a road's token is left out",
            () -> leftOut(HEAD, "road", "0", "1", "long", "1", ";"));
        t.edge(3, line, "a person's token is left out",
            () -> leftOut(HEAD, "person", "at", "0", "strong", "1", ";"));
        t.edge(3, line, "a quarrel's token is left out",
            () -> leftOut(HEAD + PAIR, "quarrel", "0", "1", ";"));
        t.edge(3, line, "a coin's token is left out",
            () -> leftOut(HEAD, "coin", "at", "0", "weight", "1", "worth", "1", ";"));
        t.edge(3, line, "a token of may is left out",
            () -> leftOut(HEAD, "may", ":", "hour", "=", "1", ";"));
        t.edge(3, line, "a token of wears is left out", () -> leftOut(HEAD, "wears", ":", "1", ";"));
        t.edge(3, line, "one more N", () -> {
            t.fault(HEAD + "road 0 1 1 long 1;", 2, AT + 9);
            t.fault(HEAD + PAIR + "quarrel 0 1 1;", 2, AT + PAIR.length() + 12);
            t.fault(HEAD + "coin at 0 weight 1 worth 1 1;", 2, AT + 27);
        });
        t.edge(3, line, "each of them, in any order", () -> t.lines(HEAD + "wears:1;may:1=1;coin at 1 weight 1 worth 1;"
            + PAIR + "quarrel 1 0;road 1 0 long 1;person at 1 strong 1;wears:2;", 10));
    }

    private void head() {
        String told = "valley: how many PLACES, 1 to 6, numbered from 0 on, the HOUR, 0 to 9.";
        t.edge(3, told, "0 places", () -> t.fault("valley places 0 hour 0;", 3, 14));
        t.edge(3, told, "1 place", () -> {
            CoinPairs x = Due.of("valley places 1 hour 0;");
            t.is("count(0)", x.count(0), 1);
            t.is("far(0, 1)", x.far(0, 1), -2);
        });
        t.edge(3, told, "6 places, numbered to 5", () -> {
            CoinPairs x = Due.of("valley places 6 hour 0;");
            t.is("count(0)", x.count(0), 6);
            t.is("far(5, 5)", x.far(5, 5), 0);
            t.is("far(5, 6)", x.far(5, 6), -2);
        });
        t.edge(3, told, "7 places", () -> t.fault("valley places 7 hour 0;", 3, 14));
        t.edge(3, told, "999 places", () -> t.fault("valley places 999 hour 0;", 3, 14));
        t.edge(3, told, "hour 0", () -> t.is("count(4)", Due.of("valley places 1 hour 0;").count(4), 0));
        t.edge(3, told, "hour 9", () -> t.is("count(4)", Due.of("valley places 1 hour 9;").count(4), 9));
        t.edge(3, told, "hour 10", () -> t.fault("valley places 1 hour 10;", 3, 21));
        t.edge(3, told, "hour 999", () -> t.fault("valley places 1 hour 999;", 3, 21));
    }

    private void roads() {
        String told = "road: two unlike PLACES, how long, 1 to 9; numbered from 0 on, 9 at most; it leads both ways.";
        t.edge(3, told, "the last place", () -> {
            CoinPairs x = Due.of("valley places 6 hour 0;road 5 0 long 1;road 0 5 long 1;");
            t.is("road(0, 0)", x.road(0, 0), 5);
            t.is("road(1, 1)", x.road(1, 1), 5);
        });
        t.edge(3, told, "one place too far, as the first", () -> t.fault(HEAD + "road 2 0 long 1;", 3, AT + 5));
        t.edge(3, told, "one place too far, as the second", () -> t.fault(HEAD + "road 0 2 long 1;", 3, AT + 7));
        t.edge(3, told, "two like places", () -> t.fault(HEAD + "road 1 1 long 1;", 3, AT + 7));
        t.edge(3, told, "no two places are there", () -> t.fault("valley places 1 hour 0;road 0 0 long 1;", 3, 30));
        t.edge(3, told, "0 long", () -> t.fault(HEAD + "road 0 1 long 0;", 3, AT + 14));
        t.edge(3, told, "1 long", () -> t.is("road(0, 2)", Due.of(HEAD + "road 0 1 long 1;").road(0, 2), 1));
        t.edge(3, told, "9 long", () -> t.is("road(0, 2)", Due.of(HEAD + "road 0 1 long 9;").road(0, 2), 9));
        t.edge(3, told, "10 long", () -> t.fault(HEAD + "road 0 1 long 10;", 3, AT + 14));
        t.edge(3, told, "a ninth one", () -> {
            CoinPairs x = Due.of(HEAD + "road 0 1 long 1;".repeat(8) + "road 1 0 long 7;");
            t.is("count(1)", x.count(1), 9);
            t.is("road(8, 2)", x.road(8, 2), 7);
            t.is("road(0, 2)", x.road(0, 2), 1);
        });
        t.edge(3, told, "a tenth one", () -> t.fault(HEAD + "road 0 1 long 1;".repeat(10), 4, AT + 9 * 16));
        t.edge(3, told, "it leads both ways", () -> {
            CoinPairs x = Due.of(HEAD + "road 1 0 long 4;" + PAIR + Told.coins(0, 0, 0, 1, 0, 0));
            t.is("carry to 1", x.carry(0, 1, 0, 1), 4);
            t.is("carry to 0", x.carry(0, 1, 1, 0), 4);
            t.is("far(0, 1)", x.far(0, 1), 4);
            t.is("far(1, 0)", x.far(1, 0), 4);
        });
    }

    private void people() {
        String told = "person: its PLACE, how strong, 0 to 9; numbered from 0 on, 8 at most.";
        t.edge(3, told, "the last place", () -> t.is("person(0, 0)", Due.of(HEAD + "person at 1 strong 1;").person(0, 0), 1));
        t.edge(3, told, "one place too far", () -> t.fault(HEAD + "person at 2 strong 1;", 3, AT + 10));
        t.edge(3, told, "strong 0", () -> t.is("person(0, 1)", Due.of(HEAD + "person at 0 strong 0;").person(0, 1), 0));
        t.edge(3, told, "strong 9", () -> t.is("person(0, 1)", Due.of(HEAD + "person at 0 strong 9;").person(0, 1), 9));
        t.edge(3, told, "strong 10", () -> t.fault(HEAD + "person at 0 strong 10;", 3, AT + 19));
        t.edge(3, told, "an eighth one", () -> {
            CoinPairs x = Due.of(HEAD + "person at 0 strong 1;".repeat(7) + "person at 1 strong 6;");
            t.is("count(2)", x.count(2), 8);
            t.is("person(7, 1)", x.person(7, 1), 6);
            t.is("person(0, 1)", x.person(0, 1), 1);
        });
        t.edge(3, told, "a ninth one", () -> t.fault(HEAD + "person at 0 strong 1;".repeat(9), 4, AT + 8 * 21));
    }

    private void quarrels() {
        String told = "quarrel: two unlike people told ahead who have quarrelled (once more: as well).";
        int at = AT + PAIR.length() + 8;
        t.edge(3, told, "nobody was told ahead", () -> t.fault(HEAD + "quarrel 0 1;", 3, AT + 8));
        t.edge(3, told, "one was told ahead", () -> t.fault(HEAD + "person at 0 strong 1;quarrel 0 1;", 3, AT + 21 + 10));
        t.edge(3, told, "the last who was told ahead", () -> {
            t.is("as the first", Due.of(HEAD + PAIR + "quarrel 1 0;").count(5), 1);
            t.is("as the second", Due.of(HEAD + PAIR + "quarrel 0 1;").count(5), 1);
        });
        t.edge(3, told, "one who is told behind it, as the first",
            () -> t.fault(HEAD + PAIR + "quarrel 2 0;person at 0 strong 1;", 3, at));
        t.edge(3, told, "one who is told behind it, as the second",
            () -> t.fault(HEAD + PAIR + "quarrel 0 2;person at 0 strong 1;", 3, at + 2));
        t.edge(3, told, "two like people", () -> t.fault(HEAD + PAIR + "quarrel 1 1;", 3, at + 2));
        t.edge(3, told, "once more, either way round: as well", () -> {
            CoinPairs x = Due.of(HEAD + PAIR + "quarrel 0 1;quarrel 0 1;quarrel 1 0;");
            t.is("count(5)", x.count(5), 1);
            t.is("person(0, 2)", x.person(0, 2), 2);
            t.is("person(1, 2)", x.person(1, 2), 1);
            t.is("count(10)", x.count(10), 6);
        });
    }

    private void coins() {
        String told = "coin: its PLACE, weight 0 to 99, worth 0 to 99; numbered from 0 on, 4 at most.";
        t.edge(3, told, "the last place", () -> t.is("coin(0, 0)", Due.of(HEAD + Told.coins(1, 0, 0)).coin(0, 0), 1));
        t.edge(3, told, "one place too far", () -> t.fault(HEAD + Told.coins(2, 0, 0), 3, AT + 8));
        t.edge(3, told, "weight 0, worth 0", () -> {
            CoinPairs x = Due.of(HEAD + Told.coins(0, 0, 0));
            t.is("coin(0, 1)", x.coin(0, 1), 0);
            t.is("coin(0, 2)", x.coin(0, 2), 0);
        });
        t.edge(3, told, "weight 99, worth 99", () -> {
            CoinPairs x = Due.of(HEAD + Told.coins(0, 99, 99));
            t.is("coin(0, 1)", x.coin(0, 1), 99);
            t.is("coin(0, 2)", x.coin(0, 2), 99);
        });
        t.edge(3, told, "weight 100", () -> t.fault(HEAD + Told.coins(0, 100, 0), 3, AT + 17));
        t.edge(3, told, "worth 100", () -> t.fault(HEAD + Told.coins(0, 0, 100), 3, AT + 25));
        t.edge(3, told, "a fourth one", () -> {
            CoinPairs x = Due.of(HEAD + Told.coins(0, 1, 1, 0, 1, 1, 0, 1, 1, 1, 8, 9));
            t.is("count(3)", x.count(3), 4);
            t.is("coin(3, 1)", x.coin(3, 1), 8);
            t.is("coin(0, 1)", x.coin(0, 1), 1);
        });
        t.edge(3, told, "a fifth one", () -> t.fault(HEAD + Told.coins(0, 1, 1).repeat(5), 4, AT + 4 * 27));
    }

    private void laws() {
        String told = "Later ones of may, wears strike.";
        t.edge(3, told, "a later may", () -> {
            t.is("the later one holds", EdgesOfCarrying.why("1=2;may:1=1"), 0);
            t.is("the later one doesn't hold", EdgesOfCarrying.why("1=1;may:1=2"), 4);
        });
        t.edge(3, told, "a later wears",
            () -> t.is("worn", EdgesOfCarrying.worn("3;wears:5"), 5));
        t.edge(3, told, "the one leaves the other one", () -> {
            t.is("wears behind may", EdgesOfCarrying.why("1=2;wears:5"), 4);
            t.is("may behind wears", EdgesOfCarrying.worn("5;may:1=1"), 5);
        });
        t.edge(3, told, "they strike for people and coins told behind them, too", () -> {
            CoinPairs x = Due.of(HEAD + "may:1=1;wears:7;" + Told.roads(0, 1, 2) + PAIR + Told.coins(0, 99, 0));
            t.is("carry", x.carry(0, 1, 0, 1), 7);
        });
    }

    /** A law wears with a fault so many signs behind its colon. */
    private void sumFault(String law, int kind, int at) {
        t.fault(HEAD + "wears:" + law, kind, AT + 6 + at);
    }

    private void truthFault(String law, int kind, int at) {
        t.fault(HEAD + "may:" + law, kind, AT + 4 + at);
    }

    private void sums() {
        String sum = "SUM: TERM { + TERM | - TERM }; TERM: ATOM { * ATOM };";
        t.edge(3, sum, "one term, one atom", () -> t.is("worn", EdgesOfCarrying.worn("7"), 7));
        t.edge(3, sum, "none", () -> sumFault(";", 2, 0));
        t.edge(3, sum, "no term ahead of + - *", () -> {
            sumFault("+1;", 2, 0);
            sumFault("-1;", 2, 0);
            sumFault("*1;", 2, 0);
        });
        t.edge(3, sum, "no term behind + - *", () -> {
            sumFault("1+;", 2, 2);
            sumFault("1-;", 2, 2);
            sumFault("1*;", 2, 2);
        });
        t.edge(3, sum, "two of + - * in a row", () -> {
            sumFault("1+-1;", 2, 2);
            sumFault("1*+1;", 2, 2);
        });
        t.edge(3, sum, "no sign between two atoms", () -> sumFault("1 2;", 2, 2));
        t.edge(3, sum, "* is ahead of + and -, the rest goes from left to right", () -> {
            t.is("9-3-2", EdgesOfCarrying.worn("9-3-2"), 4);
            t.is("9-3+2", EdgesOfCarrying.worn("9-3+2"), 8);
            t.is("1+2*3", EdgesOfCarrying.worn("1+2*3"), 7);
            t.is("2*3+1", EdgesOfCarrying.worn("2*3+1"), 7);
            t.is("9-2*3", EdgesOfCarrying.worn("9-2*3"), 3);
            t.is("2*2*2", EdgesOfCarrying.worn("2*2*2"), 8);
        });
        String atom = "ATOM: N, ( SUM ), if TRUTH then SUM else SUM end, strong, weight, far, long, hour, in wears lesser too.";
        t.edge(3, atom, "the least and the greatest N", () -> {
            t.is("0", EdgesOfCarrying.worn("0"), 0);
            t.is("999", EdgesOfCarrying.worn("999-995"), 4);
        });
        t.edge(3, atom, "( ) with nothing within", () -> sumFault("();", 2, 1));
        t.edge(3, atom, "no ( or no )", () -> {
            sumFault("(1;", 2, 2);
            sumFault("1);", 2, 1);
            sumFault("(1];", 2, 2);
        });
        t.edge(3, atom, "a part of if is left out", () -> leftOut(HEAD + "wears:", "if", "[1=1]", "then", "1", "else", "2", "end"));
        t.edge(3, atom, "if with a sum for a truth", () -> sumFault("if 1 then 1 else 1 end;", 2, 5));
        t.edge(3, atom, "if with a truth for a sum", () -> sumFault("if 1=1 then 1=1 else 1 end;", 2, 13));
        t.edge(3, atom, "lesser in may", () -> {
            truthFault("lesser=1;", 2, 0);
            truthFault("1=if 1=1 then lesser else 1 end;", 2, 14);
            t.fault(HEAD + "wears:lesser;may:lesser=1;", 2, AT + 13 + 4);
        });
        t.edge(3, atom, "lesser in wears, also in the truth of an if",
            () -> t.is("worn", EdgesOfCarrying.worn("if lesser = 2 then lesser + 1 else 9 end"), 3));
        t.edge(3, atom, "words that are no atoms", () -> {
            sumFault("worth;", 2, 0);
            sumFault("places;", 2, 0);
            sumFault("end;", 2, 0);
            sumFault("strongest;", 2, 0);
        });
    }

    private void truths() {
        String truth = "TRUTH: BOTH { or BOTH }; BOTH: UNIT { and UNIT }; UNIT: not UNIT, [ TRUTH ], or SUM, one of = < >, SUM.";
        t.edge(3, truth, "none", () -> truthFault(";", 2, 0));
        t.edge(3, truth, "a sum alone", () -> truthFault("strong;", 2, 6));
        t.edge(3, truth, "a sum in [ ]", () -> truthFault("[strong];", 2, 7));
        t.edge(3, truth, "a truth in ( )", () -> truthFault("(1=1);", 2, 2));
        t.edge(3, truth, "[ ] with nothing within", () -> truthFault("[];", 2, 1));
        t.edge(3, truth, "no ] or no [", () -> {
            truthFault("[1=1;", 2, 4);
            truthFault("1=1];", 2, 3);
            truthFault("[1=1);", 2, 4);
        });
        t.edge(3, truth, "not without a unit", () -> {
            truthFault("not;", 2, 3);
            truthFault("1=1 and not or 1=1;", 2, 12);
            truthFault("1=not 1;", 2, 2);
        });
        t.edge(3, truth, "no unit ahead of and, or", () -> {
            truthFault("and 1=1;", 2, 0);
            truthFault("or 1=1;", 2, 0);
        });
        t.edge(3, truth, "no unit behind and, or", () -> {
            truthFault("1=1 and;", 2, 7);
            truthFault("1=1 or;", 2, 6);
        });
        t.edge(3, truth, "two of = < > in a row", () -> {
            truthFault("1=1=1;", 2, 3);
            truthFault("1<=1;", 2, 2);
        });
        t.edge(3, truth, "no sum ahead of = < > or behind", () -> {
            truthFault("=1;", 2, 0);
            truthFault("1<;", 2, 2);
        });
        t.edge(3, truth, "= < > at like numbers and one beside", () -> {
            t.is("5<5", EdgesOfCarrying.why("5<5"), 4);
            t.is("4<5", EdgesOfCarrying.why("4<5"), 0);
            t.is("5>5", EdgesOfCarrying.why("5>5"), 4);
            t.is("6>5", EdgesOfCarrying.why("6>5"), 0);
            t.is("5=5", EdgesOfCarrying.why("5=5"), 0);
            t.is("5=6", EdgesOfCarrying.why("5=6"), 4);
        });
        t.edge(3, truth, "not is ahead of and, that of or", () -> {
            t.is("not 1=2 and 1=2", EdgesOfCarrying.why("not 1=2 and 1=2"), 4);
            t.is("not 1=1 or 1=1", EdgesOfCarrying.why("not 1=1 or 1=1"), 0);
            t.is("1=1 or 1=1 and 1=2", EdgesOfCarrying.why("1=1 or 1=1 and 1=2"), 0);
            t.is("1=2 and 1=1 or 1=1", EdgesOfCarrying.why("1=2 and 1=1 or 1=1"), 0);
            t.is("[1=1 or 1=1] and 1=2", EdgesOfCarrying.why("[1=1 or 1=1] and 1=2"), 4);
            t.is("not [1=2 and 1=2]", EdgesOfCarrying.why("not [1=2 and 1=2]"), 0);
            t.is("1=1 and not 1=2", EdgesOfCarrying.why("1=1 and not 1=2"), 0);
            t.is("1=2 and not 1=2", EdgesOfCarrying.why("1=2 and not 1=2"), 4);
            t.is("1=2 or not 1=2", EdgesOfCarrying.why("1=2 or not 1=2"), 0);
        });
        t.edge(3, truth, "a unit may begin with ( or if", () -> {
            t.is("(1)=1", EdgesOfCarrying.why("(1)=1"), 0);
            t.is("if", EdgesOfCarrying.why("if 1=1 then 1 else 2 end = 1"), 0);
        });
    }

    private void nesting() {
        String six = "At most six of not [ ( if within one another.";
        t.edge(3, six, "six not", () -> t.is("why", EdgesOfCarrying.why("not ".repeat(6) + "1=1"), 0));
        t.edge(3, six, "seven not", () -> truthFault("not ".repeat(7) + "1=1;", 4, 24));
        t.edge(3, six, "six [", () -> t.is("why", EdgesOfCarrying.why("[".repeat(6) + "1=1" + "]".repeat(6)), 0));
        t.edge(3, six, "seven [", () -> truthFault("[".repeat(7) + "1=1" + "]".repeat(7) + ";", 4, 6));
        t.edge(3, six, "six (", () -> t.is("worn", EdgesOfCarrying.worn("(".repeat(6) + "5" + ")".repeat(6)), 5));
        t.edge(3, six, "seven (", () -> sumFault("(".repeat(7) + "5" + ")".repeat(7) + ";", 4, 6));
        String then = "if 1=1 then ";
        String end = " else 9 end";
        t.edge(3, six, "six if", () -> t.is("worn", EdgesOfCarrying.worn(then.repeat(6) + "5" + end.repeat(6)), 5));
        t.edge(3, six, "seven if", () -> sumFault(then.repeat(7) + "5" + end.repeat(7) + ";", 4, 6 * 12));
        t.edge(3, six, "in all three parts of if", () -> {
            sumFault("if " + "[".repeat(6) + "1=1", 4, 3 + 5);
            sumFault(then + "(".repeat(6) + "1", 4, 12 + 5);
            sumFault(then + "1 else " + "(".repeat(6) + "1", 4, 12 + 7 + 5);
        });
        t.edge(3, six, "of all kinds together", () -> {
            truthFault("not [(if not [(1)=1] then 1 else 2 end)=1];", 4, 14);
            t.is("why", EdgesOfCarrying.why("not [(if not [1=1] then 1 else 2 end)=1]"), 0);
        });
        t.edge(3, six, "beside one another they are not counted", () -> {
            String six1 = "[".repeat(6) + "1=1" + "]".repeat(6);
            t.is("[ and [", EdgesOfCarrying.why(six1 + " and " + six1 + " or " + six1), 0);
            t.is("( + (", EdgesOfCarrying.worn("((((((1))))))+((((((2))))))*((((((3))))))"), 7);
            t.is("not or not", EdgesOfCarrying.why("not ".repeat(6) + "1=1 or " + "not ".repeat(6) + "1=1"), 0);
            t.is("behind end", EdgesOfCarrying.worn(then + "1" + end + "+((((((2))))))"), 3);
        });
        t.edge(3, six, "both sides of = < > are as deep", () -> {
            truthFault("not ((((((1))))))=1;", 4, 4 + 5);
            truthFault("not 1=((((((1))))));", 4, 6 + 5);
            t.is("why", EdgesOfCarrying.why("((((((1))))))=((((((1))))))"), 0);
        });
    }

    // ---- tokens and faults

    private void tokens() {
        String tokens = "TOKENS, as long as they go on, between them blanks (10, 32): words (small letters), N (1 to 3 digits), the signs ; : + - * ( ) [ ] = < >.";
        t.edge(3, tokens, "two words without a blank are one", () -> t.fault("valleyplaces 2 hour 1;", 2, 0));
        t.edge(3, tokens, "two N without a blank are one", () -> t.fault(HEAD + "road 01 long 1;", 2, AT + 8));
        t.edge(3, tokens, "no blanks where kinds change",
            () -> t.lines("valley places2hour1;road0 1long9;person at1strong3;may:1<2;wears:3*(1+1);", 5));
        t.edge(3, tokens, "a blank within a word", () -> t.fault("val ley places 2 hour 1;", 2, 0));
        t.edge(3, tokens, "a blank within an N", () -> t.fault("valley places 2 hour 0 1;", 2, 23));
        t.edge(3, tokens, "blanks first, last, several, of both kinds",
            () -> t.lines(" \n valley\nplaces \n 2 hour\n\n1 ;\n\n", 1));
        t.edge(3, tokens, "other blanks are none", () -> {
            t.fault("valley\tplaces 2 hour 1;", 1, 6);
            t.fault("valley places 2 hour 1;\r\n", 1, AT);
            t.fault("valley places 2 hour 1;" + (char) 160, 1, AT);
            t.fault("valley places 2 hour 1;" + (char) 0, 1, AT);
        });
        t.edge(3, tokens, "capital letters", () -> {
            t.fault("Valley places 2 hour 1;", 1, 0);
            t.fault("valleY places 2 hour 1;", 2, 0);
            t.fault("valley Places 2 hour 1;", 1, 7);
        });
        t.edge(3, tokens, "1, 2 and 3 digits", () -> {
            t.lines("valley places 2 hour 1;", 1);
            t.lines("valley places 02 hour 01;", 1);
            t.lines("valley places 002 hour 009;", 1);
        });
        t.edge(3, tokens, "4 digits", () -> t.fault("valley places 0002 hour 1;", 1, 14));
        t.edge(3, tokens, "a word with another first or last letter", () -> {
            otherLetters("", "valley places 2 hour 1;");
            otherLetters(HEAD, "road 0 1 long 1;");
            otherLetters(HEAD, "person at 0 strong 1;");
            otherLetters(HEAD + PAIR, "quarrel 0 1;");
            otherLetters(HEAD, "coin at 0 weight 1 worth 1;");
            otherLetters(HEAD, "may:not strong>weight and far<long or hour=1;");
            otherLetters(HEAD, "wears:if 1=1 then lesser else 2 end;");
        });
        t.edge(3, tokens, "a word longer than all that are known", () -> t.fault("valley" + "y".repeat(800), 2, 0));
    }

    /** Each word of a line is another one by its first or its last letter: it can't stand there. */
    private void otherLetters(String head, String line) {
        t.is("without another letter", Math.min(0, Due.valley(new CoinPairs(), head + line)), 0);
        java.util.regex.Matcher word = java.util.regex.Pattern.compile("[a-z]+").matcher(line);
        while (word.find()) {
            StringBuilder first = new StringBuilder(line);
            first.setCharAt(word.start(), 'z');
            t.fault(head + first, 2, head.length() + word.start());
            StringBuilder last = new StringBuilder(line);
            last.setCharAt(word.end() - 1, 'z');
            t.fault(head + last, 2, head.length() + word.start());
        }
    }

    /** What each byte is by which a text can begin: nothing but a word can stand there, and but for valley no word. */
    private void signs() {
        String signs = "words (small letters), N (1 to 3 digits), the signs ; : + - * ( ) [ ] = < >.";
        t.edge(3, signs, "each byte from 0 to 255", () -> {
            for (int b = 0; b < 256; b++) {
                char sign = (char) b;
                boolean blank = b == 10 || b == 32;
                boolean begins = b >= 'a' && b <= 'z' || b >= '0' && b <= '9' || b != 0 && ";:+-*()[]=<>".indexOf(b) >= 0;
                t.fault(sign + " ", begins || blank ? 2 : 1, blank ? 2 : 0);
            }
        });
        t.edge(3, signs, "each sign where it stands", () -> t.is("worn",
            EdgesOfCarrying.worn("if [1=1 and 1<2] and 2>1 then (1+2)*3-4 else 9 end"), 5));
    }

    private void firstFault() {
        String first = "FAULTS, the first along the text, of one TOKEN the least kind:";
        t.edge(4, first, "a lesser kind behind it", () -> t.fault("valley places 7 hour # x", 3, 14));
        t.edge(4, first, "a greater kind behind it", () -> t.fault("x places 7 hour 1;", 2, 0));
        t.edge(4, first, "a fault in a line that is one too many, behind its first token",
            () -> t.fault(HEAD + "road 0 1 long 1;".repeat(9) + "road # 9", 4, AT + 9 * 16));
        t.edge(4, first, "no token, where nothing such can stand", () -> t.fault("valley places # hour 1;", 1, 14));
        t.edge(4, first, "4 digits where no N can stand", () -> t.fault("valley 1000 2 hour 1;", 1, 7));
        t.edge(4, first, "an N out of all bounds where none can stand", () -> t.fault("valley 999 2 hour 1;", 2, 7));
        t.edge(4, first, "a seventh ( where none can stand", () -> {
            sumFault("((((((1(", 2, 7);
            truthFault("[[[[[[1=1[", 2, 9);
        });
        t.edge(4, first, "a seventh that can't stand in a sum", () -> {
            sumFault("((((((not", 2, 6);
            sumFault("(((((([", 2, 6);
        });
        t.edge(4, first, "a tenth road where no line can begin",
            () -> t.fault(HEAD + "road 0 1 long 1;".repeat(8) + "road 0 1 long 1 road", 2, AT + 8 * 16 + 16));
    }

    private void kinds() {
        String one = "1 no TOKEN begins so (4 digits and more: at their first).";
        t.edge(4, one, "behind a good token without a blank", () -> t.fault("valley#", 1, 6));
        t.edge(4, one, "4 digits", () -> t.fault("valley places 1234", 1, 14));
        t.edge(4, one, "5 digits, 800 digits", () -> {
            t.fault("valley places 12345;", 1, 14);
            t.fault("valley places " + "1".repeat(800), 1, 14);
        });
        t.edge(4, one, "4 digits in a law", () -> sumFault("1+1000;", 1, 2));
        String two = "2 it can't stand there (the end: the text's length; valley must be told first, and once; a word of the other law).";
        t.edge(4, two, "the end", () -> t.fault("valley places 2 hour 1", 2, 22));
        t.edge(4, two, "the end behind blanks", () -> t.fault("valley places 2 hour 1 \n ", 2, 25));
        t.edge(4, two, "the end of blanks alone", () -> t.fault(" ".repeat(900), 2, 900));
        t.edge(4, two, "the end of no text", () -> t.fault("", 2, 0));
        t.edge(4, two, "the end where an N must be", () -> t.fault("valley places ", 2, 14));
        t.edge(4, two, "the end is where valley() is told to end", () -> {
            CoinPairs x = new CoinPairs();
            Due.feed(x, HEAD);
            t.is("valley(14)", x.valley(14), -32);
            t.is("its place", x.fault(1), 14);
        });
        t.edge(4, two, "valley isn't told first", () -> {
            t.fault("road 0 1 long 1;", 2, 0);
            t.fault("may:1=1;" + HEAD, 2, 0);
        });
        t.edge(4, two, "valley is told twice", () -> {
            t.fault(HEAD + HEAD, 2, AT);
            t.fault(HEAD + PAIR + HEAD, 2, AT + PAIR.length());
        });
        t.edge(4, two, "a word of the other law", () -> {
            truthFault("strong > lesser;", 2, 9);
            sumFault("not 1;", 2, 0);
            sumFault("1 and 1;", 2, 2);
        });
        String three = "3 an N out of its bounds (the second PLACE of a road, person of a quarrel as the first).";
        t.edge(4, three, "a road's second place as the first", () -> t.fault(HEAD + "road 0 0 long 1;", 3, AT + 7));
        t.edge(4, three, "a quarrel's second person as the first",
            () -> t.fault(HEAD + PAIR + "quarrel 0 0;", 3, AT + PAIR.length() + 10));
        t.edge(4, three, "below its bounds", () -> t.fault("valley places 000 hour 1;", 3, 14));
        t.edge(4, three, "above its bounds", () -> t.fault("valley places 6 hour 010;", 3, 21));
        t.edge(4, three, "in a law there are none", () -> t.is("worn", EdgesOfCarrying.worn("999"), 9));
        String four = "4 the first TOKEN of a 10th road, a 9th person, a 5th coin; a seventh of not [ ( if.";
        t.edge(4, four, "a 10th road, other lines between",
            () -> t.fault(HEAD + "road 0 1 long 1;".repeat(9) + PAIR + "road", 4, AT + 9 * 16 + PAIR.length()));
        t.edge(4, four, "a 9th person", () -> t.fault(HEAD + PAIR.repeat(4) + "person", 4, AT + 4 * PAIR.length()));
        t.edge(4, four, "a 5th coin", () -> t.fault(HEAD + Told.coins(0, 0, 0).repeat(4) + "coin", 4, AT + 4 * 27));
        t.edge(4, four, "as many as may be of each", () -> t.lines(HEAD + "road 0 1 long 1;".repeat(9) + PAIR.repeat(4)
            + Told.coins(0, 0, 0).repeat(4), 1 + 9 + 8 + 4));
        t.edge(4, four, "a seventh of each", () -> {
            truthFault("[[[[[[not", 4, 6);
            truthFault("[[[[[[[", 4, 6);
            truthFault("[[[[[[(", 4, 6);
            truthFault("[[[[[[if", 4, 6);
        });
        t.edge(4, four, "of laws, quarrels there may be any number", () -> {
            t.lines(HEAD + "may:1=1;".repeat(50) + "wears:1;".repeat(50), 101);
            t.lines(HEAD + PAIR + "quarrel 0 1;".repeat(60), 63);
        });
    }
}
