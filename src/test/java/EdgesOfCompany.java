/** Boundary cases of promises 24 to 33: pairs, lifters, guards, rests, talk, camps, peace. */
final class EdgesOfCompany {
    private static final int MIN = Integer.MIN_VALUE;
    private static final int MAX = Integer.MAX_VALUE;

    private final Edges t;

    private EdgesOfCompany(Edges t) {
        this.t = t;
    }

    static void all(Edges t) {
        EdgesOfCompany e = new EdgesOfCompany(t);
        e.pairs();
        e.pairsRefused();
        e.with();
        e.withRefused();
        e.lifters();
        e.liftersRefused();
        e.guards();
        e.guardsRefused();
        e.rests();
        e.restsThereAre();
        e.restsRefused();
        e.lifting();
        e.liftingRefused();
        e.talk();
        e.told();
        e.camps();
        e.peace();
    }

    private static CoinPairs strong(int... all) {
        StringBuilder lines = new StringBuilder(Told.head(1, 0));
        for (int s : all) {
            lines.append(Told.people(0, s));
        }
        return Due.of(lines.toString());
    }

    /** So many people who have all quarrelled but for those told, two by two. */
    private static CoinPairs friends(int many, int... two) {
        return Due.of(Told.head(1, 0) + Told.friends(many, two));
    }

    private static CoinPairs four() {
        return Due.of(ValleyTest.FOUR);
    }

    // ---- promises 24 and 25

    private void pairs() {
        String many = "PAIRS for a weight (0 to 99): how many.";
        t.edge(24, many, "nobody, one person, two", () -> {
            t.is("nobody", new CoinPairs().pairs(0), 0);
            t.is("one", strong(9).pairs(0), 0);
            t.is("two", strong(0, 0).pairs(0), 1);
        });
        t.edge(24, many, "seven and eight people", () -> {
            t.is("seven", strong(1, 1, 1, 1, 1, 1, 1).pairs(0), 3);
            t.is("eight", strong(1, 1, 1, 1, 1, 1, 1, 1).pairs(0), 4);
        });
        t.edge(24, many, "weight 99", () -> t.is("pairs(99)", strong(9, 9, 9, 9).pairs(99), 0));
        String parted = "PAIRS for a weight: people parted into pairs who haven't quarrelled and are together no less strong than that, the others alone: the most pairs;";
        t.edge(24, parted, "just as strong", () -> t.is("pairs(18)", strong(9, 9).pairs(18), 1));
        t.edge(24, parted, "one less strong", () -> {
            t.is("pairs(19)", strong(9, 9).pairs(19), 0);
            t.is("pairs(1)", strong(0, 0).pairs(1), 0);
        });
        t.edge(24, parted, "all have quarrelled", () -> t.is("pairs(0)", friends(8).pairs(0), 0));
        t.edge(24, parted, "all but two have quarrelled", () -> t.is("pairs(0)", friends(8, 6, 7).pairs(0), 1));
        t.edge(24, parted, "the most, though the first two would be a pair", () -> {
            t.is("a row of four", friends(4, 0, 1, 0, 2, 1, 3).pairs(0), 2);
            t.is("by strength", strong(9, 9, 1, 1).pairs(10), 2);
        });
        t.edge(24, parted, "quarrels of now", () -> {
            CoinPairs x = strong(5, 5);
            x.quarrel(0, 1);
            t.is("begun", x.pairs(0), 0);
            x.quarrel(0, 1);
            t.is("made up", x.pairs(0), 1);
        });
    }

    private void pairsRefused() {
        for (int weight : new int[] {100, -1, MAX, MIN}) {
            t.edge(24, "-3.", "weight " + weight, () -> t.refused("pairs", -3, EdgesOfCompany::four, x -> x.pairs(weight)));
        }
        t.edge(24, "-3.", "0 and 99 can be", () -> {
            t.is("pairs(0)", four().pairs(0), 2);
            t.is("pairs(99)", four().pairs(99), 0);
        });
    }

    private void partners(CoinPairs x, int weight, int... due) {
        for (int p = 0; p < due.length; p++) {
            t.is("with(" + weight + ", " + p + ")", x.with(weight, p), due[p]);
        }
    }

    private void with() {
        String with = "With whom a person is in these. NONE: alone;";
        t.edge(25, with, "all of eight, the last one, too", () -> partners(strong(1, 1, 1, 1, 1, 1, 1, 1), 0, 1, 0, 3, 2, 5, 4, 7, 6));
        t.edge(25, with, "one is alone", () -> partners(strong(1, 1, 1), 0, 1, 0, -1));
        t.edge(25, with, "all are alone", () -> {
            partners(friends(3), 0, -1, -1, -1);
            partners(strong(9, 9), 19, -1, -1);
            partners(strong(9), 0, -1);
        });
        String first = "of like ones that in which the least person has the least partner (alone: behind all partners), then the next one, and so on.";
        t.edge(25, first, "the least partner", () -> partners(friends(4, 0, 2, 0, 3, 1, 2, 1, 3), 0, 2, 3, 0, 1));
        t.edge(25, first, "the least partner is left for more pairs", () -> partners(friends(4, 0, 1, 0, 2, 1, 3), 0, 2, 3, 0, 1));
        t.edge(25, first, "alone is behind all partners", () -> {
            partners(friends(3, 0, 2, 1, 2), 0, 2, -1, 0);
            partners(strong(5, 5, 5, 5, 5), 0, 1, 0, 3, 2, -1);
        });
        t.edge(25, first, "the least person is alone where it must be", () -> partners(strong(0, 5, 5), 10, -1, 2, 1));
        t.edge(25, first, "the next one", () -> partners(friends(6, 0, 5, 1, 3, 1, 4, 2, 3, 2, 4), 0, 5, 3, 4, 1, 2, 0));
        t.edge(25, first, "the next one, whom the least person would have liked as well",
            () -> partners(friends(5, 0, 1, 0, 2, 2, 3, 3, 4), 0, 1, 0, 3, 2, -1));
        t.edge(25, first, "then the next one alone, for the one behind it", () -> partners(friends(5, 0, 1, 2, 4, 3, 4), 0, 1, 0, 4, -1, 2));
    }

    private void withRefused() {
        String no = "-2; -3.";
        for (int p : new int[] {4, -1, MAX, MIN}) {
            t.edge(25, no, "person " + p, () -> t.refused("with", -2, EdgesOfCompany::four, x -> x.with(0, p)));
        }
        for (int weight : new int[] {100, -1, MAX, MIN}) {
            t.edge(25, no, "weight " + weight, () -> t.refused("with", -3, EdgesOfCompany::four, x -> x.with(weight, 0)));
        }
        t.edge(25, no, "-2 ahead of -3", () -> t.is("with(100, 4)", four().with(100, 4), -2));
        t.edge(25, no, "nobody is there", () -> t.is("with(0, 0)", new CoinPairs().with(0, 0), -2));
        t.edge(25, no, "weight 99 can be", () -> t.is("with(99, 3)", four().with(99, 3), -1));
    }

    // ---- promise 26

    private void lifted(CoinPairs x, int weight, int many, int who) {
        t.is("lifters(" + weight + ", 0)", x.lifters(weight, 0), many);
        t.is("lifters(" + weight + ", 1)", x.lifters(weight, 1), who);
    }

    private void lifters() {
        String fewest = "The fewest people (whether they have quarrelled or not) who are together no less strong than a weight (0 to 99), what 0: how many, 1: who (of like ones the least set).";
        t.edge(26, fewest, "weight 0: nobody", () -> {
            lifted(four(), 0, 0, 0);
            lifted(new CoinPairs(), 0, 0, 0);
        });
        t.edge(26, fewest, "just as strong, and one less", () -> {
            lifted(four(), 5, 1, 4);
            lifted(four(), 6, 2, 3);
        });
        t.edge(26, fewest, "they have quarrelled", () -> lifted(four(), 9, 2, 5));
        t.edge(26, fewest, "of like ones the least set", () -> {
            lifted(four(), 4, 1, 1);
            lifted(strong(1, 1, 1, 1, 1, 1, 1, 1), 3, 3, 7);
            lifted(strong(0, 3, 3, 3), 6, 2, 2 + 4);
        });
        t.edge(26, fewest, "fewer people are ahead of a lesser set", () -> lifted(strong(1, 1, 9), 2, 1, 4));
        t.edge(26, fewest, "all of eight", () -> lifted(strong(9, 9, 9, 9, 9, 9, 9, 9), 72, 8, 255));
        String none = "NONE: not all together;";
        t.edge(26, none, "one more than all lift", () -> {
            lifted(strong(9, 9, 9, 9, 9, 9, 9, 9), 73, -1, -1);
            lifted(four(), 13, 4, 15);
            lifted(four(), 14, -1, -1);
        });
        t.edge(26, none, "weight 99", () -> lifted(four(), 99, -1, -1));
        t.edge(26, none, "nobody, or nobody strong", () -> {
            lifted(new CoinPairs(), 1, -1, -1);
            lifted(strong(0, 0), 1, -1, -1);
        });
    }

    private void liftersRefused() {
        String no = "-2: what; -3.";
        for (int what : new int[] {2, -1, MAX, MIN}) {
            t.edge(26, no, "what is " + what, () -> t.refused("lifters", -2, EdgesOfCompany::four, x -> x.lifters(0, what)));
        }
        for (int weight : new int[] {100, -1, MAX, MIN}) {
            t.edge(26, no, "weight " + weight, () -> t.refused("lifters", -3, EdgesOfCompany::four, x -> x.lifters(weight, 0)));
            t.edge(26, no, "who, weight " + weight, () -> t.refused("lifters", -3, EdgesOfCompany::four, x -> x.lifters(weight, 1)));
        }
        t.edge(26, no, "-2 ahead of -3", () -> t.is("lifters(100, 2)", four().lifters(100, 2), -2));
    }

    // ---- promise 27

    private void guarded(CoinPairs x, int a, int b, int many, int which) {
        t.is("guards(" + a + ", " + b + ", 0)", x.guards(a, b, 0), many);
        t.is("guards(" + a + ", " + b + ", 1)", x.guards(a, b, 1), which);
        t.is("guards(" + b + ", " + a + ", 0)", x.guards(b, a, 0), many);
        t.is("guards(" + b + ", " + a + ", 1)", x.guards(b, a, 1), which);
    }

    /** A ring of four, 4 behind 3, 5 alone. */
    private static CoinPairs ring() {
        return Due.of(Told.head(6, 0) + Told.roads(0, 1, 1, 0, 2, 1, 1, 3, 1, 2, 3, 1, 3, 4, 1));
    }

    private void guards() {
        String fewest = "The fewest PLACES (but for two told ones) by which, if nobody may pass them, no way leads from the one to the other, what 0: how many, 1: which (of like ones the least set).";
        t.edge(27, fewest, "no way leads there anyhow", () -> guarded(ring(), 0, 5, 0, 0));
        t.edge(27, fewest, "one", () -> guarded(ring(), 0, 4, 1, 8));
        t.edge(27, fewest, "two", () -> guarded(ring(), 0, 3, 2, 2 + 4));
        t.edge(27, fewest, "the told ones don't count among them", () -> guarded(ring(), 1, 2, 2, 1 + 8));
        t.edge(27, fewest, "all others", () -> guarded(Due.of(Told.head(6, 0)
            + Told.roads(0, 1, 1, 0, 2, 1, 0, 3, 1, 0, 4, 1, 5, 1, 1, 5, 2, 1, 5, 3, 1, 5, 4, 1)), 0, 5, 4, 30));
        t.edge(27, fewest, "of like ones the least set", () -> guarded(Due.of(Told.head(4, 0)
            + Told.roads(0, 1, 1, 1, 2, 1, 2, 3, 1)), 0, 3, 1, 2));
        t.edge(27, fewest, "fewer places are ahead of a lesser set", () -> guarded(Due.of(Told.head(6, 0)
            + Told.roads(0, 1, 1, 0, 2, 1, 1, 4, 1, 2, 4, 1, 4, 5, 1)), 0, 5, 1, 16));
        t.edge(27, fewest, "nine roads", () -> {
            CoinPairs x = Due.of(Told.head(4, 0) + Told.roads(0, 1, 1).repeat(8) + Told.roads(2, 1, 1));
            guarded(x, 0, 2, 1, 2);
            guarded(x, 0, 3, 0, 0);
        });
        t.edge(27, fewest, "roads, not who may carry along them", () -> guarded(Due.of(Told.head(3, 0)
            + Told.roads(0, 1, 1, 1, 2, 1) + "may:1=2;"), 0, 2, 1, 2));
        t.edge(27, fewest, "a way there and back by five roads", () -> guarded(Due.of(Told.head(6, 0)
            + Told.roads(0, 5, 1, 5, 1, 1, 1, 4, 1, 4, 2, 1, 2, 3, 1)), 0, 3, 1, 2));
        String none = "NONE: a road joins them, both are one;";
        t.edge(27, none, "a road joins them", () -> guarded(ring(), 0, 1, -1, -1));
        t.edge(27, none, "both are one", () -> {
            guarded(ring(), 0, 0, -1, -1);
            guarded(ring(), 5, 5, -1, -1);
            guarded(new CoinPairs(), 0, 0, -1, -1);
        });
    }

    private void guardsRefused() {
        for (int k : new int[] {6, -1, MAX, MIN}) {
            t.edge(27, "-2.", "from place " + k, () -> t.refused("guards", -2, EdgesOfCompany::ring, x -> x.guards(k, 0, 0)));
            t.edge(27, "-2.", "to place " + k, () -> t.refused("guards", -2, EdgesOfCompany::ring, x -> x.guards(0, k, 0)));
        }
        for (int what : new int[] {2, -1, MAX, MIN}) {
            t.edge(27, "-2.", "what is " + what, () -> t.refused("guards", -2, EdgesOfCompany::ring, x -> x.guards(0, 3, what)));
        }
        t.edge(27, "-2.", "ahead of NONE", () -> {
            t.is("both one that isn't there", ring().guards(6, 6, 0), -2);
            t.is("both one, what is 2", ring().guards(0, 0, 2), -2);
        });
    }

    // ---- promises 28 and 29

    private void resting(CoinPairs x, int level, int many, int fewest, int most) {
        t.is("rests(" + level + ", 0)", x.rests(level, 0), many);
        t.is("rests(" + level + ", 1)", x.rests(level, 1), fewest);
        t.is("rests(" + level + ", 2)", x.rests(level, 2), most);
    }

    private void rests() {
        String rests = "LIFTING by t (0 to 8), what 0: how many RESTS there are, 1: the RESTS' fewest people, 2: the most.";
        t.edge(28, rests, "t 0: all lift", () -> resting(strong(1, 1, 1, 1, 1, 1, 1, 1), 0, 1, 8, 8));
        t.edge(28, rests, "t 7: each one of eight has just so many", () -> resting(strong(1, 1, 1, 1, 1, 1, 1, 1), 7, 2, 0, 8));
        t.edge(28, rests, "t 8: nobody has so many", () -> resting(strong(1, 1, 1, 1, 1, 1, 1, 1), 8, 1, 0, 0));
        t.edge(28, rests, "nobody is there", () -> {
            resting(new CoinPairs(), 0, 1, 0, 0);
            resting(new CoinPairs(), 8, 1, 0, 0);
        });
        t.edge(28, rests, "one person", () -> {
            resting(strong(1), 0, 1, 1, 1);
            resting(strong(1), 1, 1, 0, 0);
        });
        t.edge(28, rests, "as many as four pairs of friends make", () -> resting(friends(8, 0, 1, 2, 3, 4, 5, 6, 7), 1, 16, 0, 8));
        t.edge(28, rests, "the fewest aren't none, the most not all", () -> {
            resting(friends(4, 0, 1, 0, 2, 1, 2), 0, 1, 4, 4);
            resting(friends(4, 0, 1, 0, 2, 1, 2), 2, 2, 0, 3);
        });
        String lifts = "LIFTING by t: one LIFTS if at least t of those with whom it hasn't quarrelled (itself aside) LIFT.";
        t.edge(28, lifts, "at least t: just t, and one less", () -> {
            CoinPairs x = strong(1, 1, 1);
            t.is("two of two", x.lifting(3, 2, 1), 4);
            t.is("one of two", x.lifting(1, 2, 1), 0);
            t.is("one of one", x.lifting(1, 1, 1), 6);
        });
        t.edge(28, lifts, "itself aside", () -> t.is("alone", strong(1).lifting(1, 1, 1), 0));
        t.edge(28, lifts, "who has quarrelled with all", () -> {
            t.is("t 1", friends(3, 0, 1).lifting(7, 1, 1), 3);
            t.is("t 0", friends(3, 0, 1).lifting(0, 0, 1), 7);
        });
        String rest = "A REST: a set of those who LIFT by which just these do.";
        t.edge(28, rest, "more than these, fewer than these are none", () -> {
            resting(friends(3, 0, 1, 1, 2), 1, 2, 0, 3);
            resting(strong(1, 1), 1, 2, 0, 2);
        });
    }

    /** Who lifts more never lets another one stop, so there is always a rest: NONE can't be told. */
    private void restsThereAre() {
        t.edge(28, "NONE (1, 2): there are none;", "there are always some, by each t and many quarrels", () -> {
            java.util.Random r = new java.util.Random(28);
            for (int i = 0; i < 40; i++) {
                CoinPairs x = strong(new int[r.nextInt(9)]);
                for (int p = 0; p < 8; p++) {
                    for (int q = 0; q < p; q++) {
                        if (r.nextBoolean()) {
                            x.quarrel(p, q);
                        }
                    }
                }
                for (int level = 0; level <= 8; level++) {
                    t.is("some, t " + level, Math.min(1, x.rests(level, 0)), 1);
                    t.is("fewest, t " + level, Math.min(0, x.rests(level, 1)), 0);
                    t.is("most, t " + level, Math.min(0, x.rests(level, 2)), 0);
                }
            }
        });
    }

    private void restsRefused() {
        String no = "-2: what; -3.";
        for (int what : new int[] {3, -1, MAX, MIN}) {
            t.edge(28, no, "what is " + what, () -> t.refused("rests", -2, EdgesOfCompany::four, x -> x.rests(0, what)));
        }
        for (int level : new int[] {9, -1, MAX, MIN}) {
            t.edge(28, no, "t " + level, () -> t.refused("rests", -3, EdgesOfCompany::four, x -> x.rests(level, 0)));
            t.edge(28, no, "the most, t " + level, () -> t.refused("rests", -3, EdgesOfCompany::four, x -> x.rests(level, 2)));
        }
        t.edge(28, no, "-2 ahead of -3", () -> t.is("rests(9, 3)", four().rests(9, 3), -2));
    }

    private void lifting() {
        String from = "GOING ON from a set, LIFTING by t (0 to 8), n steps (0 to 999): who LIFT then.";
        t.edge(29, from, "0 steps: as it is", () -> {
            t.is("lifting(5, 8, 0)", four().lifting(5, 8, 0), 5);
            t.is("lifting(0, 0, 0)", four().lifting(0, 0, 0), 0);
        });
        t.edge(29, from, "999 steps to and fro, and 998", () -> {
            t.is("lifting(1, 1, 999)", strong(1, 1).lifting(1, 1, 999), 2);
            t.is("lifting(1, 1, 998)", strong(1, 1).lifting(1, 1, 998), 1);
        });
        t.edge(29, from, "from nobody, from all", () -> {
            t.is("lifting(0, 1, 1)", four().lifting(0, 1, 1), 0);
            t.is("lifting(15, 1, 1)", four().lifting(15, 1, 1), 15);
        });
        t.edge(29, from, "t 0 and 8", () -> {
            t.is("lifting(0, 0, 1)", four().lifting(0, 0, 1), 15);
            t.is("lifting(15, 8, 1)", four().lifting(15, 8, 1), 0);
        });
        t.edge(29, from, "t 7 of eight", () -> {
            t.is("all", strong(1, 1, 1, 1, 1, 1, 1, 1).lifting(255, 7, 999), 255);
            t.is("all but one", strong(1, 1, 1, 1, 1, 1, 1, 1).lifting(127, 7, 1), 128);
        });
        t.edge(29, from, "nobody is there", () -> t.is("lifting(0, 0, 999)", new CoinPairs().lifting(0, 0, 999), 0));
        String all = "GOING ON from a set: all at once, step by step, as those of the set LIFT.";
        t.edge(29, all, "all at once", () -> {
            CoinPairs x = friends(4, 0, 1, 1, 2, 2, 3);
            t.is("one step along a row", x.lifting(1, 1, 1), 2);
            t.is("two steps", x.lifting(1, 1, 2), 1 + 4);
            t.is("three steps", x.lifting(1, 1, 3), 2 + 8);
        });
    }

    private void liftingRefused() {
        String no = "-2: the set; -3: t, n.";
        for (int set : new int[] {16, -1, MAX, MIN}) {
            t.edge(29, no, "set " + set, () -> t.refused("lifting", -2, EdgesOfCompany::four, x -> x.lifting(set, 0, 0)));
        }
        for (int level : new int[] {9, -1, MAX, MIN}) {
            t.edge(29, no, "t " + level, () -> t.refused("lifting", -3, EdgesOfCompany::four, x -> x.lifting(0, level, 0)));
        }
        for (int n : new int[] {1000, -1, MAX, MIN}) {
            t.edge(29, no, n + " steps", () -> t.refused("lifting", -3, EdgesOfCompany::four, x -> x.lifting(0, 0, n)));
        }
        t.edge(29, no, "the greatest set, and one more", () -> {
            t.is("of four", four().lifting(15, 0, 0), 15);
            t.is("of eight", strong(1, 1, 1, 1, 1, 1, 1, 1).lifting(255, 0, 0), 255);
            t.is("beyond eight", strong(1, 1, 1, 1, 1, 1, 1, 1).lifting(256, 0, 0), -2);
            t.is("of nobody", new CoinPairs().lifting(1, 0, 0), -2);
        });
        t.edge(29, no, "-2 ahead of -3", () -> {
            t.is("lifting(16, 9, 0)", four().lifting(16, 9, 0), -2);
            t.is("lifting(-1, 0, 1000)", four().lifting(-1, 0, 1000), -2);
        });
    }

    // ---- promises 30 and 31

    /** Eight in a row, each a friend of the next one. */
    private static CoinPairs row() {
        return friends(8, 0, 1, 1, 2, 2, 3, 3, 4, 4, 5, 5, 6, 6, 7);
    }

    private void talk() {
        String talk = "TALK: who has heard it behind n days (0 to 8) if one knows it.";
        t.edge(30, talk, "0 days: who knows it", () -> {
            t.is("talk(0, 0)", row().talk(0, 0), 1);
            t.is("talk(7, 0)", row().talk(7, 0), 128);
        });
        t.edge(30, talk, "1 day", () -> {
            t.is("talk(0, 1)", row().talk(0, 1), 3);
            t.is("talk(7, 1)", row().talk(7, 1), 128 + 64);
        });
        t.edge(30, talk, "6, 7 and 8 days along a row of eight", () -> {
            t.is("talk(0, 6)", row().talk(0, 6), 127);
            t.is("talk(0, 7)", row().talk(0, 7), 255);
            t.is("talk(0, 8)", row().talk(0, 8), 255);
        });
        String tells = "TALK: who has heard it tells, each day, all with whom it hasn't quarrelled.";
        t.edge(30, tells, "who has quarrelled with all", () -> t.is("talk(0, 8)", friends(8).talk(0, 8), 1));
        t.edge(30, tells, "who has quarrelled with nobody", () -> t.is("talk(3, 1)", strong(1, 1, 1, 1, 1, 1, 1, 1).talk(3, 1), 255));
        t.edge(30, tells, "not on the same day whom others tell", () -> t.is("talk(1, 1)", row().talk(1, 1), 7));
        t.edge(30, tells, "one person", () -> t.is("talk(0, 8)", strong(1).talk(0, 8), 1));
        String no = "-2; -3.";
        for (int p : new int[] {8, -1, MAX, MIN}) {
            t.edge(30, no, "person " + p, () -> t.refused("talk", -2, EdgesOfCompany::row, x -> x.talk(p, 0)));
        }
        for (int n : new int[] {9, -1, MAX, MIN}) {
            t.edge(30, no, n + " days", () -> t.refused("talk", -3, EdgesOfCompany::row, x -> x.talk(0, n)));
        }
        t.edge(30, no, "-2 ahead of -3", () -> t.is("talk(8, 9)", row().talk(8, 9), -2));
        t.edge(30, no, "nobody is there", () -> t.is("talk(0, 0)", new CoinPairs().talk(0, 0), -2));
    }

    private void told() {
        String days = "Behind how many days all have heard it.";
        t.edge(31, days, "0: there is but one", () -> t.is("told(0)", strong(1).told(0), 0));
        t.edge(31, days, "1: all are friends", () -> t.is("told(7)", strong(1, 1, 1, 1, 1, 1, 1, 1).told(7), 1));
        t.edge(31, days, "7: the most that can be", () -> {
            t.is("told(0)", row().told(0), 7);
            t.is("told(7)", row().told(7), 7);
        });
        t.edge(31, days, "from the midst of a row", () -> t.is("told(3)", row().told(3), 4));
        t.edge(31, "NONE: never;", "one has quarrelled with all", () -> {
            t.is("told(0)", friends(3, 0, 1).told(0), -1);
            t.is("told(2)", friends(3, 0, 1).told(2), -1);
        });
        t.edge(31, "NONE: never;", "till it is made up", () -> {
            CoinPairs x = friends(3, 0, 1);
            x.quarrel(1, 2);
            t.is("told(0)", x.told(0), 2);
        });
        for (int p : new int[] {8, -1, MAX, MIN}) {
            t.edge(31, "-2.", "person " + p, () -> t.refused("told", -2, EdgesOfCompany::row, x -> x.told(p)));
        }
        t.edge(31, "-2.", "nobody is there", () -> t.is("told(0)", new CoinPairs().told(0), -2));
    }

    // ---- promises 32 and 33

    private void camp(CoinPairs x, int many, int camp) {
        t.is("camps(0)", x.camps(0), many);
        t.is("camps(1)", x.camps(1), camp);
    }

    private void camps() {
        String fewest = "The fewest pairs who must quarrel or make it up so that there are TWO CAMPS, what 0: how many, 1: the camp of person 0 (of like ones the least set; 0 without people).";
        t.edge(32, fewest, "without people", () -> camp(new CoinPairs(), 0, 0));
        t.edge(32, fewest, "one person", () -> camp(strong(1), 0, 1));
        t.edge(32, fewest, "two, friends or not", () -> {
            camp(strong(1, 1), 0, 3);
            camp(friends(2), 0, 1);
        });
        t.edge(32, fewest, "one must make it up", () -> camp(friends(4, 0, 1), 1, 3));
        t.edge(32, fewest, "one must quarrel", () -> camp(friends(4, 0, 1, 2, 3, 1, 2), 1, 3));
        t.edge(32, fewest, "of like ones the least set", () -> {
            camp(friends(3), 1, 1);
            camp(friends(4), 2, 3);
        });
        t.edge(32, fewest, "the most that can be, all of eight have quarrelled", () -> camp(friends(8), 12, 15));
        t.edge(32, fewest, "quarrels of now", () -> {
            CoinPairs x = strong(1, 1, 1);
            x.quarrel(0, 1);
            camp(x, 1, 1);
            x.quarrel(1, 2);
            camp(x, 0, 5);
        });
        String two = "TWO CAMPS: nobody has quarrelled with one of its own camp, each with each one of the other camp (one of them may be empty).";
        t.edge(32, two, "one of them is empty", () -> camp(strong(1, 1, 1, 1, 1, 1, 1, 1), 0, 255));
        t.edge(32, two, "they are so already", () -> {
            camp(friends(8, 0, 7, 1, 2, 1, 3, 1, 4, 1, 5, 1, 6, 2, 3, 2, 4, 2, 5, 2, 6, 3, 4, 3, 5, 3, 6, 4, 5, 4, 6, 5, 6), 0, 129);
            camp(friends(3, 1, 2), 0, 1);
        });
        for (int what : new int[] {2, -1, MAX, MIN}) {
            t.edge(32, "-2.", "what is " + what, () -> t.refused("camps", -2, EdgesOfCompany::four, x -> x.camps(what)));
        }
        t.edge(32, "-2.", "also without people", () -> t.is("camps(2)", new CoinPairs().camps(2), -2));
    }

    private void peace() {
        String fewest = "The fewest quarrels to be made up so that from each one all hear.";
        t.edge(33, fewest, "nobody, one person", () -> {
            t.is("nobody", new CoinPairs().peace(), 0);
            t.is("one", strong(1).peace(), 0);
        });
        t.edge(33, fewest, "all hear already", () -> {
            t.is("all are friends", strong(1, 1, 1).peace(), 0);
            t.is("a row", row().peace(), 0);
        });
        t.edge(33, fewest, "two who have quarrelled", () -> t.is("peace()", friends(2).peace(), 1));
        t.edge(33, fewest, "one of eight is alone", () -> t.is("peace()",
            friends(8, 0, 1, 1, 2, 2, 3, 3, 4, 4, 5, 5, 6).peace(), 1));
        t.edge(33, fewest, "two and two, one between the others", () -> {
            t.is("0 and 2, 1 and 3", friends(4, 0, 2, 1, 3).peace(), 1);
            t.is("0 and 3, 1 and 2", friends(4, 0, 3, 1, 2).peace(), 1);
        });
        t.edge(33, fewest, "four pairs of friends", () -> t.is("peace()", friends(8, 0, 1, 2, 3, 4, 5, 6, 7).peace(), 3));
        t.edge(33, fewest, "all of eight have quarrelled: the most that can be", () -> t.is("peace()", friends(8).peace(), 7));
    }
}
