/** Promises 24 to 33: pairs, lifters, guards, rests, talk, camps, peace. */
public final class TogetherTest {
    private static final Due DUE = new Due("TogetherTest");

    public static void main(String[] args) {
        pairs();
        lifters();
        guards();
        rests();
        lifting();
        talk();
        camps();
        peace();
        DUE.end();
    }

    private static CoinPairs people(String strong, String quarrels) {
        StringBuilder text = new StringBuilder("valley places 1 hour 0;");
        for (char s : strong.toCharArray()) {
            text.append("person at 0 strong ").append(s).append(';');
        }
        for (String pair : quarrels.split(" ")) {
            if (!pair.isEmpty()) {
                text.append("quarrel ").append(pair.charAt(0)).append(' ').append(pair.charAt(1)).append(';');
            }
        }
        return Due.of(text.toString());
    }

    private static void partners(CoinPairs x, int weight, int many, int... partners) {
        DUE.is("pairs(" + weight + ")", x.pairs(weight), many);
        for (int p = 0; p < partners.length; p++) {
            DUE.is("with(" + weight + ", " + p + ")", x.with(weight, p), partners[p]);
        }
    }

    private static void pairs() {
        CoinPairs x = people("12345", "");
        partners(x, 0, 2, 1, 0, 3, 2, -1);
        partners(x, 6, 2, 4, 3, -1, 1, 0);
        partners(x, 7, 2, -1, 4, 3, 2, 1);
        partners(x, 8, 1, -1, -1, 4, -1, 2);
        partners(x, 9, 1, -1, -1, -1, 4, 3);
        partners(x, 10, 0, -1, -1, -1, -1, -1);
        partners(x, 99, 0, -1, -1, -1, -1, -1);
        // The greedy pair 0, 1 would leave 2 and 3 alone.
        partners(people("5555", "23"), 0, 2, 2, 3, 0, 1);
        partners(people("555", "01 02"), 3, 1, -1, 2, 1);
        partners(people("99999999", ""), 18, 4, 1, 0, 3, 2, 5, 4, 7, 6);
        partners(new CoinPairs(), 0, 0);
        DUE.is("weight 100", x.pairs(100), -3);
        DUE.is("weight -1", x.pairs(-1), -3);
        DUE.is("with weight 100", x.with(100, 0), -3);
        DUE.is("with weight -1", x.with(-1, 0), -3);
        DUE.is("no such person, ahead of the weight", x.with(100, 5), -2);
        DUE.is("no such person", x.with(0, -1), -2);
    }

    private static void lift(CoinPairs x, int weight, int many, int set) {
        DUE.is("lifters(" + weight + ", 0)", x.lifters(weight, 0), many);
        DUE.is("lifters(" + weight + ", 1)", x.lifters(weight, 1), set);
    }

    private static void lifters() {
        CoinPairs x = people("4351", "02");
        lift(x, 0, 0, 0);
        lift(x, 1, 1, 1);
        lift(x, 4, 1, 1);
        lift(x, 5, 1, 4);
        lift(x, 7, 2, 3);
        lift(x, 9, 2, 5);
        lift(x, 12, 3, 7);
        lift(x, 13, 4, 15);
        lift(x, 14, -1, -1);
        lift(x, 99, -1, -1);
        lift(x, 100, -3, -3);
        lift(x, -1, -3, -3);
        DUE.is("what, ahead of the weight", x.lifters(100, 2), -2);
        DUE.is("what", x.lifters(0, -1), -2);
        lift(people("99999999", ""), 72, 8, 255);
    }

    private static void guard(CoinPairs x, int a, int b, int many, int set) {
        DUE.is("guards(" + a + ", " + b + ", 0)", x.guards(a, b, 0), many);
        DUE.is("guards(" + a + ", " + b + ", 1)", x.guards(a, b, 1), set);
        DUE.is("guards(" + b + ", " + a + ", 1)", x.guards(b, a, 1), set);
    }

    private static void guards() {
        CoinPairs x = Due.of("valley places 6 hour 0;road 0 1 long 1;road 0 2 long 1;road 1 3 long 1;road 2 3 long 1;"
            + "road 3 4 long 1;");
        guard(x, 0, 3, 2, 6);
        guard(x, 0, 4, 1, 8);
        guard(x, 1, 2, 2, 9);
        guard(x, 0, 5, 0, 0);
        guard(x, 0, 1, -1, -1);
        guard(x, 0, 0, -1, -1);
        guard(x, 1, 4, 1, 8);
        DUE.is("no such place", x.guards(6, 0, 0), -2);
        DUE.is("no such place", x.guards(0, 6, 0), -2);
        DUE.is("no such place", x.guards(-1, -1, 0), -2);
        DUE.is("what", x.guards(0, 3, 2), -2);
        DUE.is("what, ahead of NONE", x.guards(0, 0, -1), -2);
        x = Due.of("valley places 4 hour 0;road 0 1 long 1;road 1 2 long 1;road 2 3 long 1;");
        guard(x, 0, 3, 1, 2);
    }

    private static void resting(CoinPairs x, int t, int many, int fewest, int most) {
        DUE.is("rests(" + t + ", 0)", x.rests(t, 0), many);
        DUE.is("rests(" + t + ", 1)", x.rests(t, 1), fewest);
        DUE.is("rests(" + t + ", 2)", x.rests(t, 2), most);
    }

    private static void rests() {
        // Friends: 0 1 2 with one another, 3 with 0 alone.
        CoinPairs x = people("1111", "13 23");
        resting(x, 0, 1, 4, 4);
        resting(x, 1, 2, 0, 4);
        resting(x, 2, 2, 0, 3);
        resting(x, 3, 1, 0, 0);
        resting(x, 8, 1, 0, 0);
        resting(x, 9, -3, -3, -3);
        resting(x, -1, -3, -3, -3);
        DUE.is("what, ahead of t", x.rests(9, 3), -2);
        DUE.is("what", x.rests(0, -1), -2);
        resting(new CoinPairs(), 0, 1, 0, 0);
        resting(new CoinPairs(), 1, 1, 0, 0);
        // Two pairs of friends.
        resting(people("1111", "02 03 12 13"), 1, 4, 0, 4);
    }

    private static void lifting() {
        CoinPairs x = people("1111", "13 23");
        DUE.is("no step", x.lifting(9, 1, 0), 9);
        DUE.is("one step", x.lifting(8, 1, 1), 1);
        DUE.is("two steps", x.lifting(8, 1, 2), 14);
        DUE.is("three steps", x.lifting(8, 1, 3), 7);
        DUE.is("many", x.lifting(8, 1, 999), 15);
        DUE.is("t 0", x.lifting(0, 0, 1), 15);
        DUE.is("all", x.lifting(15, 1, 1), 15);
        DUE.is("t 8", x.lifting(15, 8, 1), 0);
        DUE.is("t 2", x.lifting(11, 2, 1), 5);
        DUE.is("t 2", x.lifting(11, 2, 2), 2);
        DUE.is("t 2", x.lifting(11, 2, 3), 0);
        DUE.is("to and fro", people("11", "").lifting(1, 1, 3), 2);
        DUE.is("to and fro", people("11", "").lifting(1, 1, 998), 1);
        DUE.is("set 16", x.lifting(16, 0, 0), -2);
        DUE.is("set -1, ahead of t", x.lifting(-1, 9, 0), -2);
        DUE.is("t 9", x.lifting(0, 9, 0), -3);
        DUE.is("t -1", x.lifting(0, -1, 0), -3);
        DUE.is("n -1", x.lifting(0, 0, -1), -3);
        DUE.is("n 1000", x.lifting(0, 0, 1000), -3);
    }

    private static void talk() {
        // Friends in a row: 0 1 2 3, and 4 alone.
        CoinPairs x = people("11111", "02 03 13 04 14 24 34");
        int[] heard = {1, 3, 7, 15, 15, 15, 15, 15, 15};
        for (int n = 0; n < 9; n++) {
            DUE.is("talk(0, " + n + ")", x.talk(0, n), heard[n]);
        }
        DUE.is("talk(1, 1)", x.talk(1, 1), 7);
        DUE.is("talk(4, 8)", x.talk(4, 8), 16);
        DUE.is("n 9", x.talk(0, 9), -3);
        DUE.is("n -1", x.talk(0, -1), -3);
        DUE.is("no such person, ahead of n", x.talk(5, 9), -2);
        DUE.is("no such person", x.talk(-1, 0), -2);
        DUE.is("never", x.told(0), -1);
        x.quarrel(3, 4);
        DUE.is("four days", x.told(0), 4);
        DUE.is("three days", x.told(1), 3);
        DUE.is("two days", x.told(2), 2);
        DUE.is("no such", x.told(5), -2);
        DUE.is("no such", x.told(-1), -2);
        DUE.is("alone", people("1", "").told(0), 0);
        DUE.is("seven days", people("11111111",
            "02 03 04 05 06 07 13 14 15 16 17 24 25 26 27 35 36 37 46 47 57").told(0), 7);
    }

    private static void camps() {
        CoinPairs x = people("1111", "02 03 12 13");
        DUE.is("two camps already", x.camps(0), 0);
        DUE.is("who", x.camps(1), 3);
        x.quarrel(0, 1);
        DUE.is("one", x.camps(0), 1);
        DUE.is("the least set", x.camps(1), 1 + 2);
        DUE.is("one camp", people("111", "").camps(1), 7);
        DUE.is("all quarrelled", people("111", "01 02 12").camps(0), 1);
        DUE.is("all quarrelled, the least", people("111", "01 02 12").camps(1), 1);
        DUE.is("alone", people("1", "").camps(1), 1);
        DUE.is("nobody", new CoinPairs().camps(0), 0);
        DUE.is("nobody", new CoinPairs().camps(1), 0);
        DUE.is("what", x.camps(2), -2);
        DUE.is("what", x.camps(-1), -2);
    }

    private static void peace() {
        DUE.is("nobody", new CoinPairs().peace(), 0);
        DUE.is("all friends", people("1111", "").peace(), 0);
        DUE.is("a row hears", people("1111", "02 03 13").peace(), 0);
        DUE.is("one alone", people("1111", "03 13 23").peace(), 1);
        DUE.is("all alone", people("1111", "01 02 03 12 13 23").peace(), 3);
        DUE.is("two and two", people("1111", "02 03 12 13").peace(), 1);
    }
}
