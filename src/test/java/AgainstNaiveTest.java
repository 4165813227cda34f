import java.util.HashMap;
import java.util.List;
import java.util.Random;

/** Random valleys and calls, each answer compared with the plain one of Naive. */
public final class AgainstNaiveTest {
    private static final int NONE = -1;
    private final Due due = new Due("AgainstNaiveTest");
    private final Random r;
    private final CoinPairs x = new CoinPairs();
    private final Naive o = new Naive();
    private final StringBuilder told = new StringBuilder();

    private AgainstNaiveTest(long seed) {
        r = new Random(seed * 0x9E3779B97F4A7C15L);
    }

    public static void main(String[] args) {
        int runs = args.length > 0 ? Integer.parseInt(args[0]) : 400;
        long from = args.length > 1 ? Long.parseLong(args[1]) : 1;
        int calls = 0;
        for (int i = 0; i < runs; i++) {
            AgainstNaiveTest t = new AgainstNaiveTest(from + i);
            calls += t.run();
            if (t.due.anyWrong()) {
                System.out.println("seed " + (from + i) + "\n" + t.told);
                System.exit(1);
            }
        }
        System.out.println("AgainstNaiveTest: " + runs + " runs, " + calls + " calls, all as due");
    }

    private int run() {
        int calls = 0;
        valley();
        for (; calls < 150 && !due.anyWrong(); calls++) {
            int pick = r.nextInt(100);
            if (pick < 3) {
                valley();
            } else if (pick < 35) {
                deeds();
            } else if (pick < 50) {
                ways();
            } else if (pick < 65) {
                together();
            } else if (pick < 80) {
                worn();
            } else if (pick < 90) {
                games();
            } else {
                traysAndImages();
            }
            state();
        }
        return calls;
    }

    private void is(String call, long got, long wanted) {
        told.append(call).append(" -> ").append(got).append('\n');
        due.is(call, got, wanted);
    }

    private int near(int many) {
        int pick = r.nextInt(30);
        return pick == 0 ? -1 : pick == 1 ? many : pick == 2 ? r.nextInt() : many == 0 ? 0 : r.nextInt(many);
    }

    private int place() {
        return near(o.v.places);
    }

    private int person() {
        return near(o.n());
    }

    private int coin() {
        return near(o.v.coins.size());
    }

    private void valley() {
        o.v = Naive.random(r);
        o.s = Naive.begin(o.v);
        o.past.clear();
        o.fars.clear();
        told.append(o.v.text).append('\n');
        is("valley", Due.valley(x, o.v.text), o.v.lines);
    }

    private void state() {
        for (int c = 0; c < o.v.coins.size(); c++) {
            is("coin at", x.coin(c, 0), o.s.at[c]);
            is("coin rim", x.coin(c, 3), o.s.rim[c]);
        }
        is("count(4)", x.count(4), o.s.hour);
        is("count(5)", x.count(5), o.s.quarrels.size());
        is("count(6)", x.count(6), o.s.carried);
        is("count(8)", x.count(8), o.past.size());
        is("count(10)", x.count(10), o.v.lines);
    }

    private void deeds() {
        int p = person();
        int q = person();
        int c = coin();
        int to = place();
        int w = o.wear(p, q, c, to);
        switch (r.nextInt(9)) {
            case 0:
            case 1:
                is("why", x.why(p, q, c, to), w < 0 ? -w : 0);
                is("worn", x.worn(p, q, c, to), w == -1 ? -2 : w < 0 ? -5 : w);
                Naive.State before = o.s.copy();
                if (w >= 0) {
                    o.deed(10000 + 1000 * Math.min(p, q) + 100 * Math.max(p, q) + 10 * c + to);
                    o.remember(before);
                }
                is("carry " + p + q + c + to, x.carry(p, q, c, to), w < 0 ? -10 + w : w);
                break;
            case 2:
                quarrel(p, q);
                break;
            case 3:
                int h = near(10);
                is("hour " + h, x.hour(h), h < 0 || h > 9 ? -11 : o.s.hour);
                if (h >= 0 && h <= 9) {
                    o.remember(o.s.copy());
                    o.s.hour = h;
                }
                break;
            case 4:
                int back = r.nextInt(12);
                if (back < 1 || back > o.past.size()) {
                    is("undo " + back, x.undo(back), -3);
                } else {
                    for (int i = 0; i < back; i++) {
                        o.s = o.past.remove(o.past.size() - 1);
                    }
                    is("undo " + back, x.undo(back), o.past.size());
                }
                break;
            case 5:
                int seed = r.nextInt();
                int times = r.nextInt(20) == 0 ? r.nextInt(43) : 1 + r.nextInt(12);
                is("year " + seed + " " + times, x.year(seed, times), times < 1 || times > 40 ? -3 : o.year(seed, times));
                break;
            case 6:
                int many = 0;
                for (int a = 0; a < o.n(); a++) {
                    for (int b = a + 1; b < o.n(); b++) {
                        many += o.wear(a, b, c, to) >= 0 ? 1 : 0;
                    }
                }
                is("bearers " + c + to, x.bearers(c, to), o.coin(c) && o.place(to) ? many : -2);
                break;
            default:
                judge();
                break;
        }
    }

    private void quarrel(int p, int q) {
        Naive.State before = o.s.copy();
        boolean can = o.person(p) && o.person(q) && p != q;
        if (can) {
            o.deed(100 + 10 * p + q);
            o.remember(before);
        }
        is("quarrel " + p + q, x.quarrel(p, q), !can ? -11 : o.feud(p, q) ? 1 : 0);
    }

    private void judge() {
        int tray = r.nextInt(4);
        int sort = 1 + r.nextInt(3);
        int n = r.nextInt(8);
        o.trays[tray] = new long[n];
        o.sorts[tray] = sort;
        is("numbers", x.numbers(tray, sort, n), 0);
        Naive.State before = o.s.copy();
        for (int i = 0; i < n; i++) {
            long d = deed();
            is("write " + d, x.write(tray, i, d), d);
            o.trays[tray][i] = d;
            o.deed(d);
        }
        o.s = before.copy();
        int done = 0;
        int why = 0;
        while (done < n && why == 0) {
            why = o.deed(o.trays[tray][done]);
            done += why == 0 ? 1 : 0;
        }
        int at = 0;
        int rims = 0;
        int ten = 1;
        for (int c = 0; c < o.v.coins.size(); c++) {
            at += ten * o.s.at[c];
            rims += o.s.rim[c];
            ten *= 10;
        }
        is("judge 0", x.judge(tray, 0), done == n ? NONE : done);
        is("judge 1", x.judge(tray, 1), why);
        is("judge 2", x.judge(tray, 2), at);
        is("judge 3", x.judge(tray, 3), rims);
        if (r.nextBoolean()) {
            is("perform", x.perform(tray), done);
            if (done > 0) {
                o.remember(before);
            }
        } else {
            o.s = before;
        }
    }

    /** Mostly one that can be. */
    private long deed() {
        int pick = r.nextInt(12);
        if (pick == 0) {
            return r.nextInt(250);
        }
        if (pick == 1) {
            return 10000 + r.nextInt(10000);
        }
        if (pick == 2) {
            return 10 + r.nextInt(10);
        }
        if (pick == 3 && o.n() > 0) {
            return 100 + 10 * r.nextInt(o.n()) + r.nextInt(o.n());
        }
        if (o.v.coins.isEmpty()) {
            return 15;
        }
        int c = r.nextInt(o.v.coins.size());
        List<int[]> all = o.deeds(c, o.s.at[c]);
        return all.isEmpty() ? 12 : all.get(r.nextInt(all.size()))[0];
    }

    private void ways() {
        int c = coin();
        int to = place();
        boolean there = o.coin(c) && o.place(to);
        switch (r.nextInt(5)) {
            case 0:
                List<Integer> row = there ? o.soonest(c, to) : null;
                is("soonest " + c + to, x.soonest(c, to), !there ? -2 : row == null ? NONE : row.size());
                for (int i = -1; i < 7; i++) {
                    int wanted = !there ? -2 : i < 0 ? -3 : row == null || i >= row.size() ? NONE : row.get(i);
                    is("way " + c + to + i, x.way(c, to, i), wanted);
                }
                break;
            case 1:
                int n = near(9);
                long many = !there ? -2 : n < 0 || n > 8 ? -3
                    : o.rows(o.allDeeds(c), o.s.at[c], to, unknown(n), 0, new HashMap<>());
                is("rows " + c + to + n, x.rows(c, to, n), many);
                break;
            case 2:
                int set = 0;
                for (int k = 0; k < o.v.places && o.coin(c); k++) {
                    set |= o.soonest(c, k) != null ? 1 << k : 0;
                }
                is("reach " + c, x.reach(c), o.coin(c) ? set : -2);
                break;
            case 3:
                pays(to);
                break;
            default:
                for (int a = 0; a < o.v.places; a++) {
                    for (int b = 0; b < o.v.places; b++) {
                        is("far " + a + b, x.far(a, b), o.far(a, b));
                    }
                }
                break;
        }
    }

    private void pays(int k) {
        int sum = near(r.nextBoolean() ? 1000 : 12);
        for (int what = 0; what < 4; what++) {
            int wanted = -2;
            if (o.place(k)) {
                int[] best = sum < 0 || sum > 999 ? null : o.pays(k, sum, what > 1);
                wanted = sum < 0 || sum > 999 ? -3 : best == null ? NONE : best[what % 2];
            }
            is("pays " + k + " " + sum + " " + what, x.pays(k, sum, what), wanted);
        }
    }

    private static long[] unknown(int n) {
        long[] rims = new long[n];
        java.util.Arrays.fill(rims, NONE);
        return rims;
    }

    private void together() {
        int p = person();
        switch (r.nextInt(7)) {
            case 0:
                int weight = near(r.nextBoolean() ? 20 : 100);
                boolean can = weight >= 0 && weight <= 99;
                int[] partner = can ? o.pairs(weight) : null;
                is("pairs " + weight, x.pairs(weight), !can ? -3 : Naive.paired(partner));
                is("with " + weight + p, x.with(weight, p), !o.person(p) ? -2 : !can ? -3 : partner[p]);
                break;
            case 1:
                int heavy = near(r.nextBoolean() ? 30 : 100);
                int set = heavy >= 0 && heavy <= 99 ? o.lifters(heavy) : -3;
                is("lifters", x.lifters(heavy, 0), set < 0 ? set : Integer.bitCount(set));
                is("lifters", x.lifters(heavy, 1), set);
                break;
            case 2:
                int a = place();
                int b = place();
                int guards = o.place(a) && o.place(b) ? o.guards(a, b) : -2;
                is("guards " + a + b, x.guards(a, b, 0), guards < 0 ? guards : Integer.bitCount(guards));
                is("guards " + a + b, x.guards(a, b, 1), guards);
                break;
            case 3:
                rests();
                break;
            case 4:
                int days = near(9);
                is("talk", x.talk(p, days), !o.person(p) ? -2 : days < 0 || days > 8 ? -3 : o.talk(p, days));
                int told = o.person(p) ? NONE : -2;
                for (int i = 20; i >= 0 && o.person(p); i--) {
                    told = o.talk(p, i) == (1 << o.n()) - 1 ? i : told;
                }
                is("told", x.told(p), told);
                break;
            case 5:
                int[] camps = o.camps();
                is("camps", x.camps(0), camps[0]);
                is("camps", x.camps(1), camps[1]);
                break;
            default:
                is("peace", x.peace(), o.peace());
                break;
        }
    }

    private void rests() {
        int t = near(9);
        int many = 0;
        int fewest = 99;
        int most = NONE;
        for (int set = 0; set < 1 << o.n(); set++) {
            if (t >= 0 && t <= 8 && o.lift(set, t) == set) {
                many++;
                fewest = Math.min(fewest, Integer.bitCount(set));
                most = Math.max(most, Integer.bitCount(set));
            }
        }
        boolean can = t >= 0 && t <= 8;
        is("rests " + t, x.rests(t, 0), can ? many : -3);
        is("rests " + t, x.rests(t, 1), can ? many == 0 ? NONE : fewest : -3);
        is("rests " + t, x.rests(t, 2), can ? most : -3);
        int set = near(1 << o.n());
        int n = near(r.nextBoolean() ? 5 : 1000);
        int lifts = set;
        boolean there = set >= 0 && set < 1 << o.n();
        for (int i = 0; i < n && can && n < 1000 && there; i++) {
            lifts = o.lift(lifts, t);
        }
        is("lifting", x.lifting(set, t, n), !there ? -2 : !can || n < 0 || n > 999 ? -3 : lifts);
    }

    private void worn() {
        int tray = r.nextInt(4);
        int c = coin();
        if (r.nextBoolean()) {
            hours(tray, c);
            return;
        }
        int n = 1 + r.nextInt(8);
        long[] rims = rims(c, n);
        Due.tray(x, tray, rims);
        o.trays[tray] = rims;
        o.sorts[tray] = 3;
        told.append(java.util.Arrays.toString(rims)).append('\n');
        if (!o.coin(c)) {
            is("wornBy", x.wornBy(tray, c), -2);
            return;
        }
        HashMap<Integer, Long> known = new HashMap<>();
        List<List<int[]>> deeds = o.allDeeds(c);
        long rows = o.rows(deeds, o.s.at[c], NONE, rims, 0, known);
        is("wornBy " + c, x.wornBy(tray, c), rows);
        List<Integer> first = rows > 0 ? o.firstWorn(deeds, o.s.at[c], rims, 0, known) : null;
        int i = r.nextInt(n + 2) - 1;
        is("wornFirst " + c + " " + i, x.wornFirst(tray, c, i), i < 0 ? -3 : first == null || i >= n ? NONE : first.get(i));
        is("who " + c + " " + i, x.who(tray, c, i), i < 0 ? -3 : i >= n ? -7 : o.who(c, rims, i));
    }

    /** Mostly as a row would wear it. */
    private long[] rims(int c, int n) {
        long[] rims = new long[n];
        int at = o.coin(c) ? o.s.at[c] : 0;
        for (int i = 0; i < n; i++) {
            List<int[]> all = o.coin(c) ? o.deeds(c, at) : List.of();
            if (all.isEmpty() || r.nextInt(20) == 0) {
                rims[i] = r.nextInt(11) - 1;
            } else {
                int[] d = all.get(r.nextInt(all.size()));
                rims[i] = r.nextInt(4) == 0 ? NONE : d[1];
                at = d[0] % 10;
            }
        }
        return rims;
    }

    private void hours(int tray, int c) {
        int n = 1 + r.nextInt(r.nextBoolean() ? 2 : 8);
        long[] numbers = new long[n];
        int real = r.nextInt(10);
        for (int i = 0; i < n; i++) {
            int d = r.nextInt(10000);
            if (o.v.coins.size() > 0 && o.n() > 1 && r.nextInt(20) > 0) {
                int coin = r.nextInt(o.v.coins.size());
                int p = r.nextInt(o.n() - 1);
                int q = p + 1 + r.nextInt(o.n() - 1 - p);
                d = p * 1000 + q * 100 + coin * 10 + r.nextInt(o.v.places);
                int w = o.wear(p, q, coin, o.s.at[coin], d % 10, real);
                numbers[i] = d * 10 + (w < 0 ? r.nextInt(10) : w);
            } else {
                numbers[i] = d * 10 + r.nextInt(10);
            }
        }
        Due.tray(x, tray, numbers);
        o.trays[tray] = numbers;
        o.sorts[tray] = 3;
        told.append(java.util.Arrays.toString(numbers)).append('\n');
        int set = o.hours(numbers);
        is("hours", x.hours(tray), set);
        int to = place();
        boolean there = o.coin(c) && o.place(to);
        is("attempt " + c + to, x.attempt(tray, c, to), !there ? -2 : o.attempt(set, c, to));
    }

    private void games() {
        int c = coin();
        int to = place();
        boolean there = o.coin(c) && o.place(to);
        int[] forced = there ? o.forced(c, to) : new int[] {-2, -2};
        is("forces " + c + to, x.forces(c, to), forced[0]);
        is("best " + c + to, x.best(c, to), forced[1]);
        int[] chance = there ? o.chance(c, to) : new int[] {-2, -2, -2};
        is("chance " + c + to, x.chance(c, to, 0), chance[0]);
        is("chance " + c + to, x.chance(c, to, 1), chance[1]);
        is("by " + c + to, x.by(c, to), chance[2]);
    }

    private void traysAndImages() {
        int i = near(2);
        int tray = near(4);
        boolean has = i == 0 || i == 1;
        switch (r.nextInt(4)) {
            case 0:
                is("image " + i, x.image(i), has ? 0 : -2);
                if (has) {
                    o.imageTold[i] = o.v;
                    o.imageState[i] = o.s.copy();
                }
                break;
            case 1:
                boolean made = has && o.imageTold[i] != null;
                is("restore " + i, x.restore(i), !has ? -2 : made ? 0 : -5);
                if (made) {
                    o.v = o.imageTold[i];
                    o.s = o.imageState[i].copy();
                    o.past.clear();
                    o.fars.clear();
                }
                break;
            case 2:
                lists(tray);
                break;
            default:
                int sort = near(4);
                int n = near(41);
                boolean there = tray >= 0 && tray < 4 && sort >= 0 && sort < 4;
                is("numbers", x.numbers(tray, sort, n), !there ? -2 : n < 0 || n > 40 ? -3 : 0);
                if (there && n >= 0 && n <= 40) {
                    o.trays[tray] = new long[n];
                    o.sorts[tray] = sort;
                }
                break;
        }
        write(near(4), near(41), r.nextLong() >> r.nextInt(64));
    }

    private static long cut(int sort, long v) {
        return sort == 0 ? (byte) v : sort == 1 ? (short) v : sort == 2 ? (int) v : v;
    }

    private void write(int tray, int i, long value) {
        boolean has = tray >= 0 && tray < 4;
        boolean missing = has && o.trays[tray] == null;
        boolean number = has && !missing && i >= 0 && i < o.trays[tray].length;
        if (number) {
            o.trays[tray][i] = cut(o.sorts[tray], value);
        }
        is("write", x.write(tray, i, value), !has ? -2 : missing ? -6 : number ? o.trays[tray][i] : -7);
    }

    /** What came into the tray is told by judging it. */
    private void lists(int tray) {
        int c = coin();
        int to = place();
        boolean there = tray >= 0 && tray < 4 && o.coin(c) && o.place(to);
        if (there && o.trays[tray] == null) {
            is("lists", x.lists(tray, c, to), -6);
            return;
        }
        List<Integer> row = there ? o.soonest(c, to) : null;
        int many = row == null ? 0 : Math.min(row.size(), o.trays[tray].length);
        is("lists", x.lists(tray, c, to), !there ? -2 : row == null ? -5 : many);
        for (int i = 0; i < many; i++) {
            o.trays[tray][i] = cut(o.sorts[tray], row.get(i));
        }
        if (there && row != null) {
            Naive.State before = o.s.copy();
            int done = 0;
            while (done < o.trays[tray].length && o.deed(o.trays[tray][done]) == 0) {
                done++;
            }
            is("judge", x.judge(tray, 0), done == o.trays[tray].length ? NONE : done);
            o.s = before;
        }
    }
}
