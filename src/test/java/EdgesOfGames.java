/** Boundary cases of promises 39 to 42: a coin carried by turns, and how likely a purchase is made. */
final class EdgesOfGames {
    private static final int MIN = Integer.MIN_VALUE;
    private static final int MAX = Integer.MAX_VALUE;

    private static final String TWO = Told.alike(2, 9);

    /** A row of six along which the coin goes but never back: each place tells its one road by how far it is. */
    private static final String ONWARD = Told.head(6, 0) + Told.roads(0, 1, 4, 1, 2, 5, 2, 3, 6, 3, 4, 7, 4, 5, 8) + TWO
        + "may:far=0 or far=8 and long=5 or far=18 and long=6 or far=30 and long=7 or far=44 and long=8;";

    private final Edges t;

    private EdgesOfGames(Edges t) {
        this.t = t;
    }

    static void all(Edges t) {
        EdgesOfGames e = new EdgesOfGames(t);
        e.forces();
        e.forcesNever();
        e.best();
        e.bestNone();
        e.chance();
        e.chanceOfSeveral();
        e.chanceByLaw();
        e.by();
        e.chancesRefused();
    }

    private static CoinPairs row() {
        return Due.of(Told.head(4, 0) + Told.roads(0, 1, 1, 1, 2, 1) + TWO + Told.coins(0, 0, 0));
    }

    /** The coin goes from 0 to 1 or 2, from these on to 3 alone. */
    private static CoinPairs onTwoWays() {
        return Due.of(Told.head(4, 0) + Told.roads(0, 1, 5, 0, 2, 5, 1, 3, 6, 2, 3, 6) + TWO + Told.coins(0, 0, 0, 1, 0, 0)
            + "may:far=0 or long=6;");
    }

    /** From 0 to 1, on to 2 or 3, from both to 4, from 2 and from 4 to 5, where it ends; never back. */
    private static CoinPairs forked() {
        return Due.of(Told.head(6, 0) + Told.roads(0, 1, 1, 1, 2, 2, 1, 3, 3, 2, 4, 4, 3, 4, 5, 2, 5, 6, 4, 5, 7) + TWO
            + Told.coins(0, 0, 0)
            + "may:far=0 or far=2 and long>1 or far=6 and long>2 or far=8 and long>3 or far=14 and long>5;");
    }

    // ---- promises 39 and 40

    private void forces() {
        String within = "FORCING a COIN to a PLACE: within how many CARRYINGS, at fewest (0: it is there).";
        t.edge(39, within, "it is there", () -> {
            t.is("forces(0, 0)", row().forces(0, 0), 0);
            t.is("nobody is there", Due.of(Told.head(1, 0) + Told.coins(0, 99, 0)).forces(0, 0), 0);
        });
        t.edge(39, within, "1", () -> t.is("forces(0, 1)", row().forces(0, 1), 1));
        t.edge(39, within, "3", () -> t.is("forces(0, 3)", onTwoWays().forces(0, 3), 3));
        t.edge(39, within, "9: the most that can be", () -> {
            CoinPairs x = Due.of(ONWARD + Told.coins(0, 0, 0, 1, 0, 0, 4, 0, 0));
            t.is("forces(0, 5)", x.forces(0, 5), 9);
            t.is("forces(0, 4)", x.forces(0, 4), 7);
            t.is("forces(1, 5)", x.forces(1, 5), 7);
            t.is("forces(2, 5)", x.forces(2, 5), 1);
        });
        String turns = "BY TURNS: two CARRY a COIN by turns along a road (whoever of the people may; or let it lie), the first one first; the first one FORCES it to a PLACE within n CARRYINGS (letting it lie counted), if it can do so that it is there some time by then (now, or behind one), whatever the other one does.";
        t.edge(39, turns, "letting it lie is counted: from 0 over 1 to 3 the other one lets it lie", () ->
            t.is("forces(0, 3)", onTwoWays().forces(0, 3), 3));
        t.edge(39, turns, "whoever may: not the same two each time", () -> {
            CoinPairs x = Due.of(Told.head(3, 0) + Told.roads(0, 1, 5, 1, 2, 6) + Told.people(0, 1, 0, 2, 0, 4) + Told.coins(0, 0, 0)
                + "may:strong=3 and far=0 or strong=6 and long=6;");
            t.is("forces(0, 2)", x.forces(0, 2), 3);
        });
        t.edge(39, turns, "some time by then: the other one may carry it on from there", () ->
            t.is("forces(0, 1)", row().forces(0, 1), 1));
        t.edge(39, turns, "whatever the other one does: it carries it back", () -> t.is("forces(0, 2)", row().forces(0, 2), -1));
        t.edge(39, turns, "5: over a place from which it can be carried to the place or elsewhere", () -> {
            t.is("forces(0, 4)", forked().forces(0, 4), 5);
            t.is("best(0, 4)", forked().best(0, 4), 1);
        });
        t.edge(39, turns, "over place 0", () -> {
            CoinPairs x = Due.of(Told.head(3, 0) + Told.roads(1, 0, 5, 0, 2, 6) + Told.people(1, 9, 1, 9) + Told.coins(1, 0, 0)
                + "may:far=0 or far=10 and long=6;");
            t.is("forces(0, 2)", x.forces(0, 2), 3);
            t.is("best(0, 2)", x.best(0, 2), 0);
        });
        t.edge(39, turns, "whatever the other one does: it carries it elsewhere", () -> {
            CoinPairs x = Due.of(Told.head(4, 0) + Told.roads(0, 1, 5, 1, 2, 6, 1, 3, 7) + TWO + Told.coins(0, 0, 0)
                + "may:far=0 or far=10 and long>5;");
            t.is("forces(0, 3)", x.forces(0, 3), -1);
        });
    }

    private void forcesNever() {
        String never = "NONE: never;";
        t.edge(39, never, "no road leads there", () -> t.is("forces(0, 3)", row().forces(0, 3), -1));
        t.edge(39, never, "nobody may", () -> {
            CoinPairs x = row();
            x.quarrel(0, 1);
            t.is("forces(0, 1)", x.forces(0, 1), -1);
        });
        t.edge(39, never, "a place from which it can't go on is not the place", () -> {
            CoinPairs x = Due.of(Told.head(4, 0) + Told.roads(0, 2, 5) + TWO + Told.coins(0, 0, 0, 2, 0, 0) + "may:far=0;");
            t.is("forces(0, 1)", x.forces(0, 1), -1);
            t.is("forces(0, 3)", x.forces(0, 3), -1);
            t.is("forces(1, 1)", x.forces(1, 1), -1);
            t.is("forces(1, 0)", x.forces(1, 0), -1);
        });
        t.edge(39, never, "where it can come, but only if the other one lets it", () -> {
            CoinPairs x = row();
            t.is("soonest(0, 2)", x.soonest(0, 2), 2);
            t.is("forces(0, 2)", x.forces(0, 2), -1);
        });
        for (int c : new int[] {1, -1, MAX, MIN}) {
            t.edge(39, "-2.", "coin " + c, () -> t.refused("forces", -2, EdgesOfGames::row, x -> x.forces(c, 0)));
            t.edge(40, "-2.", "coin " + c, () -> t.refused("best", -2, EdgesOfGames::row, x -> x.best(c, 0)));
        }
        for (int to : new int[] {4, -1, MAX, MIN}) {
            t.edge(39, "-2.", "place " + to, () -> t.refused("forces", -2, EdgesOfGames::row, x -> x.forces(0, to)));
            t.edge(40, "-2.", "place " + to, () -> t.refused("best", -2, EdgesOfGames::row, x -> x.best(0, to)));
        }
    }

    private void best() {
        String first = "The first PLACE to which it had best be CARRIED for that (its own: it lies, behind all others).";
        t.edge(40, first, "the place itself", () -> t.is("best(0, 1)", row().best(0, 1), 1));
        t.edge(40, first, "of two the first", () -> t.is("best(0, 3)", onTwoWays().best(0, 3), 1));
        t.edge(40, first, "not one from where the other one helps it", () -> {
            CoinPairs x = Due.of(Told.head(4, 0) + Told.roads(0, 2, 5, 0, 1, 6, 1, 2, 5, 2, 3, 6) + TWO + Told.coins(0, 0, 0)
                + "may:far=0 or long=6;");
            t.is("best(0, 3)", x.best(0, 3), 2);
        });
        t.edge(40, first, "the fewest carryings, not the first place that forces it at all", () -> {
            CoinPairs x = Due.of(Told.head(5, 0) + Told.roads(0, 1, 5, 1, 2, 6, 2, 4, 7, 0, 3, 4, 3, 4, 8) + TWO + Told.coins(0, 0, 0)
                + "may:far=0 or far=10 and long=6 or far=22 and long=7 or far=8 and long=8;");
            t.is("forces(0, 4)", x.forces(0, 4), 3);
            t.is("best(0, 4)", x.best(0, 4), 3);
        });
        t.edge(40, first, "of a way of nine", () -> t.is("best(0, 5)", Due.of(ONWARD + Told.coins(0, 0, 0)).best(0, 5), 1));
        t.edge(40, first, "place 0, from elsewhere", () -> t.is("best(0, 0)",
            Due.of(Told.head(2, 0) + Told.roads(0, 1, 1) + TWO + Told.coins(1, 0, 0)).best(0, 0), 0));
        // Whom it helps that it lies, the other one lets it lie as well: so its own never is the best place.
        t.edge(40, first, "its own is behind all others, and so never told", () -> {
            for (int to = 1; to < 6; to++) {
                CoinPairs x = Due.of(ONWARD + Told.coins(0, 0, 0));
                t.is("best(0, " + to + ")", x.best(0, to), 1);
            }
        });
    }

    private void bestNone() {
        String none = "NONE: it doesn't, it is there;";
        t.edge(40, none, "it doesn't", () -> {
            t.is("best(0, 2)", row().best(0, 2), -1);
            t.is("best(0, 3)", row().best(0, 3), -1);
        });
        t.edge(40, none, "it is there", () -> t.is("best(0, 0)", row().best(0, 0), -1));
    }

    // ---- promises 41 and 42

    private void likely(CoinPairs x, int to, int above, int below, int by) {
        t.is("chance(0, " + to + ", 0)", x.chance(0, to, 0), above);
        t.is("chance(0, " + to + ", 1)", x.chance(0, to, 1), below);
        t.is("by(0, " + to + ")", x.by(0, to), by);
    }

    private static CoinPairs along(int... lengths) {
        StringBuilder text = new StringBuilder(Told.head(6, 0));
        for (int i = 0; i < lengths.length; i++) {
            text.append(Told.roads(i, i + 1, lengths[i]));
        }
        return Due.of(text + TWO + Told.coins(0, 0, 0));
    }

    private void chance() {
        String greatest = "CHANCE: the greatest with which a purchase by a COIN is made at a PLACE, what 0: the number above, 1: below, in lowest terms.";
        t.edge(41, greatest, "no way leads there: 0 of 1", () -> {
            CoinPairs x = along(1);
            t.is("chance(0, 5, 0)", x.chance(0, 5, 0), 0);
            t.is("chance(0, 5, 1)", x.chance(0, 5, 1), 1);
        });
        t.edge(41, greatest, "in lowest terms", () -> {
            likely(along(5), 1, 1, 2, 1);
            likely(along(2), 1, 4, 5, 1);
            likely(along(1), 1, 9, 10, 1);
            likely(along(5, 5), 2, 1, 4, 2);
            likely(along(2, 5), 2, 2, 5, 2);
            likely(along(5, 8), 2, 1, 10, 2);
            likely(along(2, 2, 2, 2, 2), 5, 1024, 3125, 5);
            likely(along(5, 5, 5, 5, 5), 5, 1, 32, 5);
        });
        String way = "CHANCE: a purchase for which a COIN is CARRIED along a way of 5 roads at most (each one by which some two may, whichever of several that join two PLACES) is thought over on each road as likely as it is long, in ten; not thought over on all: it is made (with no road: surely).";
        t.edge(41, way, "with no road: surely", () -> {
            likely(along(1), 0, 1, 1, 0);
            likely(Due.of(Told.head(1, 0) + Told.coins(0, 99, 0)), 0, 1, 1, 0);
        });
        t.edge(41, way, "1 road, 1 and 9 long", () -> {
            likely(along(1), 1, 9, 10, 1);
            likely(along(9), 1, 1, 10, 1);
        });
        t.edge(41, way, "5 roads, the likeliest", () -> likely(along(1, 1, 1, 1, 1), 5, 59049, 100000, 5));
        t.edge(41, way, "5 roads, the least likely", () -> likely(along(9, 9, 9, 9, 9), 5, 1, 100000, 5));
        t.edge(41, way, "from where it is now", () -> {
            CoinPairs x = along(3, 4);
            x.carry(0, 1, 0, 1);
            likely(x, 0, 7, 10, 1);
            likely(x, 1, 1, 1, 0);
            likely(x, 2, 3, 5, 1);
        });
    }

    private void chanceOfSeveral() {
        String greatest = "CHANCE: the greatest with which a purchase by a COIN is made at a PLACE";
        t.edge(41, greatest, "two roads are likelier than one", () -> likely(Due.of(Told.head(3, 0)
            + Told.roads(0, 1, 2, 1, 2, 1, 0, 2, 4) + TWO + Told.coins(0, 0, 0)), 2, 18, 25, 2));
        t.edge(41, greatest, "one road is likelier than two", () -> likely(Due.of(Told.head(3, 0)
            + Told.roads(0, 1, 2, 1, 2, 2, 0, 2, 3) + TWO + Told.coins(0, 0, 0)), 2, 7, 10, 1));
        t.edge(41, greatest, "the last of nine roads", () -> likely(Due.of(Told.head(2, 0) + Told.roads(0, 1, 9).repeat(8)
            + Told.roads(1, 0, 2) + TWO + Told.coins(0, 0, 0)), 1, 4, 5, 1));
        t.edge(41, greatest, "five roads are likelier than one", () -> likely(Due.of(Told.head(6, 0)
            + Told.roads(0, 1, 1, 1, 2, 1, 2, 3, 1, 3, 4, 1, 4, 5, 1, 0, 5, 5) + TWO + Told.coins(0, 0, 0)), 5, 59049, 100000, 5));
        String which = "whichever of several that join two PLACES";
        t.edge(41, which, "the likeliest, not the first by which they may", () -> {
            CoinPairs x = Due.of(Told.head(2, 0) + Told.roads(0, 1, 8, 1, 0, 1, 0, 1, 4) + TWO + Told.coins(0, 0, 0));
            likely(x, 1, 9, 10, 1);
            t.is("worn", x.worn(0, 1, 0, 1), 8);
        });
    }

    private void chanceByLaw() {
        String may = "(each one by which some two may, whichever of several that join two PLACES)";
        String roads = Told.head(2, 0) + Told.roads(0, 1, 8, 0, 1, 3, 1, 0, 1);
        t.edge(41, may, "not the likeliest if nobody may by it",
            () -> likely(Due.of(roads + TWO + Told.coins(0, 0, 0) + "may:long>2;"), 1, 7, 10, 1));
        t.edge(41, may, "not the likeliest if nobody may by it, all told the same way round", () -> {
            likely(Due.of(Told.head(2, 0) + Told.roads(0, 1, 8, 0, 1, 3, 0, 1, 1) + TWO + Told.coins(0, 0, 0) + "may:long>2;"), 1, 7, 10, 1);
            likely(Due.of(Told.head(2, 0) + Told.roads(1, 0, 8, 1, 0, 3, 1, 0, 1) + TWO + Told.coins(0, 0, 0) + "may:long>2;"), 1, 7, 10, 1);
            likely(Due.of(Told.head(2, 0) + Told.roads(1, 0, 1) + TWO + Told.coins(0, 0, 0)), 1, 9, 10, 1);
        });
        t.edge(41, may, "some two: others by another road", () -> likely(Due.of(roads + Told.people(0, 1, 0, 1, 0, 5)
            + Told.coins(0, 0, 0) + "may:strong=2 and long=3 or strong=6 and long=1;"), 1, 9, 10, 1));
        t.edge(41, may, "who have quarrelled may not", () -> {
            CoinPairs x = Due.of(roads + TWO + Told.coins(0, 0, 0));
            x.quarrel(0, 1);
            likely(x, 1, 0, 1, -1);
        });
        t.edge(41, may, "one person", () -> likely(Due.of(roads + Told.alike(1, 9) + Told.coins(0, 0, 0)), 1, 0, 1, -1));
        t.edge(41, may, "the last two of eight", () -> likely(Due.of(Told.head(2, 0) + Told.roads(0, 1, 1)
            + Told.alike(6, 0) + Told.people(0, 9, 0, 9) + Told.coins(0, 18, 0)), 1, 9, 10, 1));
        t.edge(41, may, "along it one way but not back", () -> {
            CoinPairs x = Due.of(Told.head(2, 0) + Told.roads(0, 1, 2) + TWO + Told.coins(0, 0, 0) + "may:far=0;");
            likely(x, 1, 4, 5, 1);
            x.carry(0, 1, 0, 1);
            likely(x, 0, 0, 1, -1);
        });
        t.edge(41, may, "by the law at the hour of now, from where it is on the way", () -> {
            CoinPairs x = Due.of(Told.head(3, 0) + Told.roads(0, 1, 2, 1, 2, 3) + TWO + Told.coins(0, 0, 0)
                + "may:far=0 or far=4 and hour=5;");
            likely(x, 2, 0, 1, -1);
            x.hour(5);
            likely(x, 2, 14, 25, 2);
        });
    }

    private void by() {
        String fewest = "By how many roads it is as great, the fewest.";
        t.edge(42, fewest, "0: it is there", () -> t.is("by(0, 0)", along(1).by(0, 0), 0));
        t.edge(42, fewest, "5", () -> t.is("by(0, 5)", along(9, 9, 9, 9, 9).by(0, 5), 5));
        t.edge(42, fewest, "as great by one as by two", () -> t.is("by(0, 2)", Due.of(Told.head(3, 0)
            + Told.roads(0, 1, 2, 1, 2, 5, 0, 2, 6) + TWO + Told.coins(0, 0, 0)).by(0, 2), 1));
        t.edge(42, fewest, "as great by two as by three", () -> t.is("by(0, 3)", Due.of(Told.head(5, 0)
            + Told.roads(0, 1, 2, 1, 2, 5, 2, 3, 1, 0, 4, 6, 4, 3, 1) + TWO + Told.coins(0, 0, 0)).by(0, 3), 2));
        t.edge(42, fewest, "the greatest by more, though fewer would do", () -> t.is("by(0, 2)", Due.of(Told.head(3, 0)
            + Told.roads(0, 1, 2, 1, 2, 1, 0, 2, 4) + TWO + Told.coins(0, 0, 0)).by(0, 2), 2));
        String none = "NONE: the CHANCE is 0;";
        t.edge(42, none, "no way leads there", () -> t.is("by(0, 5)", along(1).by(0, 5), -1));
        t.edge(42, none, "nobody may", () -> t.is("by(0, 1)",
            Due.of(Told.head(2, 0) + Told.roads(0, 1, 1) + TWO + Told.coins(0, 19, 0)).by(0, 1), -1));
    }

    private void chancesRefused() {
        for (int c : new int[] {1, -1, MAX, MIN}) {
            t.edge(41, "-2.", "coin " + c, () -> t.refused("chance", -2, EdgesOfGames::row, x -> x.chance(c, 0, 0)));
            t.edge(42, "-2.", "coin " + c, () -> t.refused("by", -2, EdgesOfGames::row, x -> x.by(c, 0)));
        }
        for (int to : new int[] {4, -1, MAX, MIN}) {
            t.edge(41, "-2.", "place " + to, () -> t.refused("chance", -2, EdgesOfGames::row, x -> x.chance(0, to, 0)));
            t.edge(42, "-2.", "place " + to, () -> t.refused("by", -2, EdgesOfGames::row, x -> x.by(0, to)));
        }
        for (int what : new int[] {2, -1, MAX, MIN}) {
            t.edge(41, "-2.", "what is " + what, () -> t.refused("chance", -2, EdgesOfGames::row, x -> x.chance(0, 0, what)));
        }
    }
}
