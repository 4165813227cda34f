/** Promises 1 to 11: the valley, as a new object and as told. */
public final class ValleyTest {
    static final String FOUR = "valley places 4 hour 2;road 0 1 long 2;road 1 2 long 3;road 0 2 long 7;"
        + "person at 0 strong 4;person at 1 strong 3;person at 2 strong 5;person at 3 strong 1;quarrel 0 2;"
        + "coin at 0 weight 7 worth 5;coin at 2 weight 9 worth 3;";

    private static final Due DUE = new Due("ValleyTest");

    public static void main(String[] args) {
        newObject();
        feed();
        valley();
        valleyKeepsAllWithAFault();
        valleyBeginsAnew();
        faults();
        faultPlaces();
        person();
        coin();
        road();
        far();
        why();
        worn();
        laws();
        longLaws();
        severalRoads();
        bearers();
        DUE.end();
    }

    private static void newObject() {
        CoinPairs x = new CoinPairs();
        int[] counts = {1, 0, 0, 0, 0, 0, 0, 0, 0, 0, 0};
        for (int what = 0; what < counts.length; what++) {
            DUE.is("new count(" + what + ")", x.count(what), counts[what]);
        }
        DUE.is("new far", x.far(0, 0), 0);
        DUE.is("new fault(0)", x.fault(0), 0);
        DUE.is("new fault(1)", x.fault(1), -1);
        DUE.is("new person", x.person(0, 0), -2);
        DUE.is("new road", x.road(0, 0), -2);
        DUE.is("new coin", x.coin(0, 0), -2);
        for (int tray = 0; tray < 4; tray++) {
            DUE.is("new tray", x.perform(tray), -6);
        }
        DUE.is("new images", x.restore(0) + x.restore(1), -10);
        DUE.is("new undo", x.undo(1), -3);
        DUE.is("NONE", CoinPairs.NONE, -1);
    }

    private static void feed() {
        CoinPairs x = new CoinPairs();
        for (int i = 1; i <= 45; i++) {
            DUE.is("feed " + i, x.feed(0x20202020, 0x20202020, 0x20202020, 0x20202020, 0x20202020), 20 * i);
        }
        DUE.is("a 46th feed", x.feed(1, 2, 3, 4, 5), -5);
        DUE.is("tape stays", x.count(9), 900);
        DUE.is("blanks alone", x.valley(900), -32);
        DUE.is("blanks alone, place", x.fault(1), 900);
        DUE.is("tape is empty", x.count(9), 0);
        // The highest byte first: "vall" "ey p" "lace" "s 1 " "hour"
        x.feed(0x76616c6c, 0x65792070, 0x6c616365, 0x73203120, 0x686f7572);
        x.feed(0x20353b20, 0xff000000, 0, 0, 0);
        DUE.is("order of bytes", x.valley(24), 1);
        DUE.is("hour told", x.count(4), 5);
        x.feed(0xff616c6c, 0, 0, 0, 0);
        DUE.is("a byte above 127", x.valley(20), -31);
        DUE.is("its place", x.fault(1), 0);
    }

    private static void valley() {
        CoinPairs x = new CoinPairs();
        DUE.is("valley(0)", x.valley(0), -32);
        DUE.is("valley(0) place", x.fault(1), 0);
        DUE.is("valley(1) without a tape", x.valley(1), -3);
        DUE.is("valley(-1)", x.valley(-1), -3);
        DUE.is("the fault stays with -3", x.fault(0), 2);
        Due.feed(x, "valley places 6 hour 9;#");
        DUE.is("too many bytes", x.valley(41), -3);
        DUE.is("below 0", x.valley(Integer.MIN_VALUE), -3);
        DUE.is("the tape stays", x.count(9), 40);
        DUE.is("just the first bytes", x.valley(23), 1);
        DUE.is("the tape is empty", x.count(9), 0);
        DUE.is("places", x.count(0), 6);
        DUE.is("hour", x.count(4), 9);
        DUE.is("fault", x.fault(0), 0);
        DUE.is("all lines", Due.valley(x, FOUR), 11);
        DUE.is("lines", x.count(10), 11);
        DUE.is("quarrel twice is as well", Due.valley(x,
            "valley places 1 hour 0;person at 0 strong 0;person at 0 strong 9;quarrel 0 1;quarrel 1 0;quarrel 0 1;"), 6);
        DUE.is("one quarrel", x.count(5), 1);
        DUE.is("of both", x.person(0, 2) * 10 + x.person(1, 2), 21);
        DUE.is("blanks are free", Due.valley(x,
            "\n valley  places\n2 hour 0;road0 1long9;person at1strong 3;may:1<2;wears:3*(1+1);   "), 5);
        DUE.is("bounds that may be", Due.valley(x, "valley places 6 hour 0;road 5 0 long 9;person at 5 strong 9;"
            + "person at 0 strong 0;quarrel 1 0;coin at 5 weight 99 worth 99;coin at 0 weight 0 worth 000;"), 7);
    }

    private static void valleyKeepsAllWithAFault() {
        CoinPairs x = Due.of(FOUR);
        x.hour(7);
        x.carry(0, 1, 0, 1);
        DUE.is("a fault", Due.valley(x, "valley places 2 hour 1;road 0 1 long 4;road"), -32);
        DUE.is("its place", x.fault(1), 43);
        int[] counts = {4, 3, 4, 2, 7, 1, 1, 2, 2, 0, 11};
        for (int what = 0; what < counts.length; what++) {
            DUE.is("with a fault count(" + what + ")", x.count(what), counts[what]);
        }
        DUE.is("roads stay", x.road(0, 2), 2);
        DUE.is("undo stays", x.undo(2), 0);
        DUE.is("hour is back", x.count(4), 2);
    }

    private static void valleyBeginsAnew() {
        CoinPairs x = Due.of(FOUR);
        x.hour(7);
        x.carry(0, 1, 0, 1);
        DUE.is("told anew", Due.valley(x, FOUR), 11);
        DUE.is("where", x.coin(0, 0), 0);
        DUE.is("not worn", x.coin(0, 3), 0);
        DUE.is("nothing carried", x.count(6), 0);
        DUE.is("nothing to be undone", x.undo(1), -3);
        DUE.is("the hour told", x.count(4), 2);
        DUE.is("fewer", Due.valley(x, "valley places 2 hour 0;"), 1);
        DUE.is("no roads", x.count(1), 0);
        DUE.is("no people", x.count(2), 0);
        DUE.is("no coins", x.count(3), 0);
        DUE.is("no quarrels", x.count(5), 0);
        DUE.is("no worn", x.count(7), 0);
        Due.valley(x, "valley places 2 hour 0;road 0 1 long 3;person at 0 strong 1;person at 0 strong 1;"
            + "coin at 0 weight 9 worth 0;may:1=1;wears:7;");
        DUE.is("with laws", x.carry(0, 1, 0, 1), 7);
        Due.valley(x, "valley places 2 hour 0;road 0 1 long 3;person at 0 strong 1;person at 0 strong 1;"
            + "coin at 0 weight 9 worth 0;");
        DUE.is("laws are gone", x.why(0, 1, 0, 1), 4);
    }

    private static void fault(String text, int kind, int place) {
        CoinPairs x = new CoinPairs();
        DUE.is("valley: " + text, Due.valley(x, text), -30 - kind);
        DUE.is("fault(0): " + text, x.fault(0), kind);
        DUE.is("fault(1): " + text, x.fault(1), place);
        DUE.is("fault(2)", x.fault(2), -1);
        DUE.is("fault(-1)", x.fault(-1), -1);
        Due.valley(x, "valley places 1 hour 0;");
        DUE.is("no fault any more", x.fault(0), 0);
        DUE.is("nor its place", x.fault(1), -1);
    }

    private static void faults() {
        String head = "valley places 2 hour 1;";
        String two = head + "person at 0 strong 1;person at 1 strong 1;";
        fault("", 2, 0);
        fault("Valley places 2 hour 1;", 1, 0);
        fault("valley places 2\thour 1;", 1, 15);
        fault("valley places 1000 hour 1;", 1, 14);
        fault("valley places 0002 hour 1;", 1, 14);
        fault("valley places 2 hour 1;1234", 1, 23);
        fault("valley places 2 hour 1,", 1, 22);
        fault("road 0 1 long 1;", 2, 0);
        fault("valley 2;", 2, 7);
        fault("valley places 2 hour 1;;", 2, 23);
        fault(head + head, 2, 23);
        fault(head + "roads 0 1 long 1;", 2, 23);
        fault("valleyplaces 2 hour 1;", 2, 0);
        fault("valley places 2 hour 1", 2, 22);
        fault("valley places 2 hour 1  ", 2, 24);
        fault("valley places 0 hour 1;", 3, 14);
        fault("valley places 7 hour 1;", 3, 14);
        fault("valley places 2 hour 10;", 3, 21);
        fault("valley places 1 hour 0;road 0 0 long 1;", 3, 30);
        fault(head + "road 2 0 long 1;", 3, 28);
        fault(head + "road 0 2 long 1;", 3, 30);
        fault(head + "road 1 1 long 1;", 3, 30);
        fault(head + "road 0 1 long 0;", 3, 37);
        fault(head + "road 0 1 long 10;", 3, 37);
        fault(head + "person at 2 strong 1;", 3, 33);
        fault(head + "person at 1 strong 10;", 3, 42);
        fault(head + "quarrel 0 1;", 3, 31);
        fault(two + "quarrel 2 0;", 3, two.length() + 8);
        fault(two + "quarrel 0 2;", 3, two.length() + 10);
        fault(two + "quarrel 1 1;", 3, two.length() + 10);
        fault(head + "coin at 2 weight 1 worth 1;", 3, 31);
        fault(head + "coin at 0 weight 100 worth 1;", 3, 40);
        fault(head + "coin at 0 weight 1 worth 100;", 3, 48);
        fault(head + "coin at 0 worth 1 weight 1;", 2, 33);
        fault(head + "may strong > 1;", 2, 27);
        fault(head + "may: strong;", 2, 34);
        fault(head + "may: lesser > 1;", 2, 28);
        fault(head + "may: 1 > lesser;", 2, 32);
        fault(head + "wears: 1 > 2;", 2, 32);
        fault(head + "wears: [ 1 ];", 2, 30);
        fault(head + "wears: not 1;", 2, 30);
        fault(head + "wears: 1 + ;", 2, 34);
        fault(head + "wears: - 1;", 2, 30);
        fault(head + "wears: (1;", 2, 32);
        fault(head + "wears: if 1 = 1 then 2 end;", 2, 46);
        fault(head + "wears: if 1 then 2 else 3 end;", 2, 35);
        fault(head + "may: 1 = 1 = 1;", 2, 34);
        fault(head + "may: (1 = 1);", 2, 31);
        fault(head + "may: 1 < 2 and;", 2, 37);
        fault(head + "may: 1 < 2", 2, 33);
    }

    private static void faultPlaces() {
        String head = "valley places 2 hour 1;";
        fault(head + "road 0 1 long 1;".repeat(10), 4, 23 + 9 * 16);
        fault(head + "road 0 1 long 1;".repeat(9) + "road road", 4, 23 + 9 * 16);
        fault(head + "person at 0 strong 1;".repeat(9), 4, 23 + 8 * 21);
        fault(head + "coin at 0 weight 1 worth 1;".repeat(5), 4, 23 + 4 * 27);
        CoinPairs x = new CoinPairs();
        DUE.is("as many as may be", Due.valley(x, head + "road 0 1 long 1;".repeat(9) + "person at 0 strong 1;".repeat(8)
            + "coin at 0 weight 1 worth 1;".repeat(4)), 22);
        DUE.is("many laws", Due.valley(x, head + "may:1<2;".repeat(50) + "wears:4;".repeat(50)), 101);
        fault(head + "may:" + "not ".repeat(7) + "1=1;", 4, 27 + 24);
        fault(head + "may:" + "[".repeat(7) + "1=1" + "]".repeat(7) + ";", 4, 33);
        fault(head + "wears:" + "(".repeat(7) + "1" + ")".repeat(7) + ";", 4, 35);
        fault(head + "may:not[not((if not 1=1 then 1 else 2 end))=1];", 4, 39);
        fault(head + "wears:((((((not", 2, 35);
        fault(head + "wears:((((((1 [", 2, 37);
        DUE.is("six not", Due.valley(x, head + "may:" + "not ".repeat(6) + "1=1 and " + "not ".repeat(6) + "1=1;"), 2);
        DUE.is("six [", Due.valley(x, head + "may:" + "[".repeat(6) + "1=1" + "]".repeat(6) + "or[[[[[[1=1]]]]]];"), 2);
        DUE.is("six (", Due.valley(x, head + "wears:" + "(".repeat(6) + "1" + ")".repeat(6) + "+((((((2))))));"), 2);
        DUE.is("not ends with its unit", Due.valley(x, head + "may:not not not not not 1=1 or [[[[[[1=1]]]]]];"), 2);
        DUE.is("six if", Due.valley(x, head + "wears:" + "if 1=1 then ".repeat(6) + "1" + " else 2 end".repeat(6) + ";"), 2);
        fault(head + "wears:" + "if 1=1 then ".repeat(7) + "1" + " else 2 end".repeat(7) + ";", 4, 29 + 72);
        fault(head + "wears:" + "if 1=1 then 1 else ".repeat(6) + "(1)" + " end".repeat(6) + ";", 4, 29 + 6 * 19);
    }

    private static void person() {
        CoinPairs x = Due.of(FOUR);
        int[][] people = {{0, 4, 4}, {1, 3, 0}, {2, 5, 1}, {3, 1, 0}};
        for (int p = 0; p < 4; p++) {
            for (int what = 0; what < 3; what++) {
                DUE.is("person(" + p + ", " + what + ")", x.person(p, what), people[p][what]);
            }
        }
        x.quarrel(3, 2);
        DUE.is("quarrels now", x.person(2, 2), 9);
        DUE.is("quarrels now", x.person(3, 2), 4);
        DUE.is("person 4", x.person(4, 0), -2);
        DUE.is("person -1", x.person(-1, 0), -2);
        DUE.is("person's 3", x.person(0, 3), -2);
        DUE.is("person's -1", x.person(0, -1), -2);
    }

    private static void coin() {
        CoinPairs x = Due.of(FOUR);
        int[][] coins = {{0, 7, 5, 0}, {2, 9, 3, 0}};
        for (int c = 0; c < 2; c++) {
            for (int what = 0; what < 4; what++) {
                DUE.is("coin(" + c + ", " + what + ")", x.coin(c, what), coins[c][what]);
            }
        }
        x.carry(0, 1, 0, 1);
        x.carry(0, 1, 0, 2);
        DUE.is("where now", x.coin(0, 0), 2);
        DUE.is("how worn now", x.coin(0, 3), 5);
        DUE.is("coin 2", x.coin(2, 0), -2);
        DUE.is("coin -1", x.coin(-1, 0), -2);
        DUE.is("coin's 4", x.coin(0, 4), -2);
        DUE.is("coin's -1", x.coin(0, -1), -2);
    }

    private static void road() {
        CoinPairs x = Due.of("valley places 3 hour 0;road 2 0 long 9;road 0 1 long 1;");
        DUE.is("first place", x.road(0, 0), 2);
        DUE.is("second place", x.road(0, 1), 0);
        DUE.is("long", x.road(0, 2), 9);
        DUE.is("next road", x.road(1, 1), 1);
        DUE.is("road 2", x.road(2, 0), -2);
        DUE.is("road -1", x.road(-1, 0), -2);
        DUE.is("road's 3", x.road(0, 3), -2);
        DUE.is("road's -1", x.road(0, -1), -2);
    }

    private static void far() {
        CoinPairs x = Due.of(FOUR);
        int[][] far = {{0, 2, 5, 99}, {2, 0, 3, 99}, {5, 3, 0, 99}, {99, 99, 99, 0}};
        for (int a = 0; a < 4; a++) {
            for (int b = 0; b < 4; b++) {
                DUE.is("far(" + a + ", " + b + ")", x.far(a, b), far[a][b]);
            }
        }
        DUE.is("far from 4", x.far(4, 0), -2);
        DUE.is("far to 4", x.far(0, 4), -2);
        DUE.is("far from -1", x.far(-1, 0), -2);
        DUE.is("far to -1", x.far(0, -1), -2);
        x = Due.of("valley places 6 hour 0;road 0 1 long 9;road 1 2 long 9;road 2 3 long 9;road 3 4 long 9;road 5 4 long 9;");
        DUE.is("the farthest", x.far(0, 5), 45);
        DUE.is("and back", x.far(5, 0), 45);
        x = Due.of("valley places 2 hour 0;road 0 1 long 9;road 1 0 long 4;");
        DUE.is("the shorter road", x.far(0, 1), 4);
    }

    private static void why() {
        CoinPairs x = Due.of(FOUR);
        DUE.is("they can", x.why(0, 1, 0, 1), 0);
        DUE.is("either first", x.why(1, 0, 0, 1), 0);
        DUE.is("no such person", x.why(4, 1, 0, 1), 1);
        DUE.is("nor the other", x.why(1, -1, 0, 1), 1);
        DUE.is("both one", x.why(1, 1, 0, 1), 1);
        DUE.is("no such coin", x.why(0, 1, 2, 1), 1);
        DUE.is("coin -1", x.why(0, 1, -1, 1), 1);
        DUE.is("no such place", x.why(0, 1, 0, 4), 1);
        DUE.is("place -1", x.why(0, 1, 0, -1), 1);
        DUE.is("no road", x.why(0, 1, 0, 3), 2);
        DUE.is("where it is", x.why(0, 1, 0, 0), 2);
        DUE.is("no road ahead of a quarrel", x.why(0, 2, 0, 3), 2);
        DUE.is("quarrelled", x.why(2, 0, 0, 1), 3);
        DUE.is("too weak", x.why(1, 3, 0, 1), 4);
        DUE.is("just strong enough", x.why(0, 1, 0, 2), 0);
        x.quarrel(1, 3);
        DUE.is("a quarrel ahead of the law", x.why(1, 3, 0, 1), 3);
    }

    private static void worn() {
        CoinPairs x = Due.of(FOUR);
        DUE.is("as the road is long", x.worn(0, 1, 0, 1), 2);
        DUE.is("another road", x.worn(1, 0, 0, 2), 7);
        DUE.is("nothing is done", x.coin(0, 3), 0);
        DUE.is("no such person", x.worn(4, 1, 0, 1), -2);
        DUE.is("both one", x.worn(1, 1, 0, 1), -2);
        DUE.is("no such coin", x.worn(0, 1, 2, 1), -2);
        DUE.is("no such place", x.worn(0, 1, 0, 4), -2);
        DUE.is("no road", x.worn(0, 1, 0, 3), -5);
        DUE.is("quarrelled", x.worn(0, 2, 0, 1), -5);
        DUE.is("too weak", x.worn(1, 3, 0, 1), -5);
    }

    private static int wornBy(String law) {
        return Due.of("valley places 3 hour 6;road 0 1 long 4;road 1 2 long 5;person at 0 strong 2;person at 2 strong 7;"
            + "coin at 0 weight 50 worth 1;may:1=1;wears:" + law + ";").worn(0, 1, 0, 1);
    }

    private static int mayBy(String law) {
        return Due.of("valley places 3 hour 6;road 0 1 long 4;road 1 2 long 5;person at 0 strong 2;person at 1 strong 7;"
            + "coin at 0 weight 50 worth 1;may:" + law + ";").why(0, 1, 0, 1);
    }

    private static void laws() {
        DUE.is("strong", wornBy("strong"), 9);
        DUE.is("strong", wornBy("strong - 1"), 8);
        DUE.is("lesser", wornBy("lesser"), 2);
        DUE.is("weight", wornBy("weight - 45"), 5);
        DUE.is("far", wornBy("far - 1"), 8);
        DUE.is("far", wornBy("if far = 9 then 3 else 4 end"), 3);
        DUE.is("long", wornBy("long"), 4);
        DUE.is("hour", wornBy("hour"), 6);
        DUE.is("9 at most", wornBy("10"), 9);
        DUE.is("0 at least", wornBy("0 - 1"), 0);
        DUE.is("from left to right", wornBy("9 - 3 - 2"), 4);
        DUE.is("* ahead of +", wornBy("1 + 2 * 3"), 7);
        DUE.is("( )", wornBy("(1 + 2) * 2"), 6);
        DUE.is("kept above", wornBy("999*999*999 - 999*999 - 999 - 995"), 5);
        DUE.is("kept at a million", wornBy("if 999*999*999 = 999*999 + 999 + 999 + 1 then 3 else 4 end"), 3);
        DUE.is("kept below", wornBy("if 0 - 999*999*999 = 0 - 999*999 - 999 - 999 - 1 then 3 else 4 end"), 3);
        DUE.is("each is kept", wornBy("if 999*999*999 - 999*999*999 - 999*999*999 + 999*999*999 = 0 then 3 else 4 end"), 3);
        DUE.is("each is kept in turn", wornBy("(999*999 + 999 + 999 + 1) * 9 + 5 - (999*999 + 999 + 999 + 1) + 2"), 2);
        DUE.is("without", mayBy("strong > weight"), 4);
        DUE.is("<", mayBy("strong < weight"), 0);
        DUE.is("= ", mayBy("strong = 9"), 0);
        DUE.is("not", mayBy("not strong = 9"), 4);
        DUE.is("and ahead of or", mayBy("1=1 or 1=1 and 1=2"), 0);
        DUE.is("[ ]", mayBy("[1=1 or 1=1] and 1=2"), 4);
        DUE.is("not ahead of and", mayBy("not 1=2 and 1=2"), 4);
        DUE.is("not ahead of or", mayBy("not 1=1 or 1=1"), 0);
        DUE.is("not not", mayBy("not not 1=1"), 0);
        DUE.is("far in may", mayBy("far = 4"), 0);
        DUE.is("later may", mayBy("1=2;may:1=1"), 0);
        DUE.is("later may", mayBy("1=1;may:1=2"), 4);
        DUE.is("later wears", wornBy("3;wears:5"), 5);
        CoinPairs x = Due.of("valley places 3 hour 0;road 0 1 long 4;person at 2 strong 1;person at 0 strong 1;"
            + "coin at 0 weight 0 worth 1;coin at 1 weight 0 worth 1;wears:if far = 99 then 1 else if far = 103 then 2 else 3 end end;");
        DUE.is("no way to it is 99", x.worn(0, 1, 0, 1), 1);
        DUE.is("from its own place", x.worn(0, 1, 1, 0), 2);
    }

    /** True, false, true and so on the deeper it goes, with as much as can wait for it at each depth. */
    private static String deepTruth(int depth) {
        if (depth == 0) {
            return "1=2";
        }
        return "1=2 or 1=1 and 3=1+2*if " + deepTruth(depth - 1) + " then 0 else 1 end";
    }

    private static void longLaws() {
        for (int depth = 0; depth <= 6; depth++) {
            DUE.is("a truth " + depth + " deep", mayBy(deepTruth(depth)), depth % 2 == 0 ? 4 : 0);
        }
        String head = "valley places 2 hour 0;road 0 1 long 4;person at 0 strong 2;person at 0 strong 7;"
            + "coin at 0 weight 1 worth 1;wears:5";
        StringBuilder text = new StringBuilder(head);
        while (text.length() + 5 <= 900) {
            text.append("-1+1");
        }
        text.append(';');
        while (text.length() < 900) {
            text.append(' ');
        }
        CoinPairs x = Due.of(text.toString());
        DUE.is("900 bytes", x.worn(0, 1, 0, 1), 5);
        x.image(0);
        Due.valley(x, "valley places 1 hour 0;");
        x.restore(0);
        DUE.is("900 bytes, restored", x.carry(0, 1, 0, 1), 5);
    }

    private static void severalRoads() {
        CoinPairs x = Due.of("valley places 2 hour 0;road 0 1 long 8;road 1 0 long 3;road 0 1 long 1;person at 0 strong 4;"
            + "person at 0 strong 2;person at 0 strong 1;coin at 0 weight 0 worth 0;may:strong > long;");
        DUE.is("the first by which they may", x.worn(0, 1, 0, 1), 3);
        DUE.is("others, another road", x.worn(1, 2, 0, 1), 1);
        DUE.is("carried by it", x.carry(0, 2, 0, 1), 3);
        DUE.is("and back", x.carry(1, 2, 0, 0), 1);
    }

    private static void bearers() {
        CoinPairs x = Due.of(FOUR);
        DUE.is("two pairs", x.bearers(0, 1), 2);
        DUE.is("no road", x.bearers(0, 3), 0);
        DUE.is("its own place", x.bearers(0, 0), 0);
        DUE.is("too heavy", x.bearers(1, 1), 0);
        x.quarrel(0, 2);
        DUE.is("one made up", x.bearers(0, 1), 3);
        DUE.is("and can lift the heavy one", x.bearers(1, 1), 1);
        DUE.is("no such coin", x.bearers(2, 0), -2);
        DUE.is("coin -1", x.bearers(-1, 0), -2);
        DUE.is("no such place", x.bearers(0, 4), -2);
        DUE.is("place -1", x.bearers(0, -1), -2);
        x = Due.of("valley places 2 hour 0;road 0 1 long 1;" + "person at 0 strong 9;".repeat(8)
            + "coin at 1 weight 18 worth 0;");
        DUE.is("all pairs", x.bearers(0, 0), 28);
    }
}
