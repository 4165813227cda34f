import java.math.BigInteger;
import java.util.ArrayList;
import java.util.Arrays;
import java.util.HashMap;
import java.util.List;
import java.util.Map;
import java.util.Random;
import java.util.TreeSet;

/** The document's words done over in the plainest way, to compare CoinPairs with. */
final class Naive {
    static final int NONE = -1;

    static final class Told {
        int places = 1;
        int hour;
        int lines;
        List<int[]> roads = new ArrayList<>();
        List<int[]> people = new ArrayList<>();
        List<int[]> coins = new ArrayList<>();
        TreeSet<Integer> quarrels = new TreeSet<>();
        Law may;
        Law wears;
        String text = "";
    }

    static final class State {
        int[] at;
        int[] rim;
        TreeSet<Integer> quarrels = new TreeSet<>();
        int hour;
        int carried;

        State copy() {
            State s = new State();
            s.at = at.clone();
            s.rim = rim.clone();
            s.quarrels = new TreeSet<>(quarrels);
            s.hour = hour;
            s.carried = carried;
            return s;
        }
    }

    Told v = new Told();
    State s = begin(v);
    List<State> past = new ArrayList<>();
    Told[] imageTold = new Told[2];
    State[] imageState = new State[2];
    long[][] trays = new long[4][];
    int[] sorts = new int[4];

    static State begin(Told v) {
        State s = new State();
        s.at = new int[v.coins.size()];
        s.rim = new int[v.coins.size()];
        for (int c = 0; c < s.at.length; c++) {
            s.at[c] = v.coins.get(c)[0];
        }
        s.quarrels = new TreeSet<>(v.quarrels);
        s.hour = v.hour;
        return s;
    }

    static Told random(Random r) {
        Told t = new Told();
        StringBuilder text = new StringBuilder();
        t.places = 1 + r.nextInt(6);
        t.hour = r.nextInt(10);
        text.append("valley places ").append(t.places).append(" hour ").append(t.hour).append(" ; ");
        t.lines = 1;
        int roads = t.places < 2 ? 0 : r.nextInt(3) == 0 ? 9 : r.nextInt(10);
        int people = r.nextInt(4) == 0 ? 8 : r.nextInt(9);
        int coins = r.nextInt(5);
        for (int i = 0; i < roads; i++) {
            int a = r.nextInt(t.places);
            int b = (a + 1 + r.nextInt(t.places - 1)) % t.places;
            int length = 1 + r.nextInt(9);
            t.roads.add(new int[] {a, b, length});
            text.append("road " + a + " " + b + " long " + length + " ; ");
            t.lines++;
        }
        for (int i = 0; i < people; i++) {
            int[] p = {r.nextInt(t.places), r.nextInt(10)};
            t.people.add(p);
            text.append("person at " + p[0] + " strong " + p[1] + " ; ");
            t.lines++;
        }
        for (int i = people < 2 ? 0 : r.nextInt(people); i > 0; i--) {
            int p = r.nextInt(people);
            int q = (p + 1 + r.nextInt(people - 1)) % people;
            t.quarrels.add(pair(p, q));
            text.append("quarrel " + p + " " + q + " ; ");
            t.lines++;
        }
        for (int i = 0; i < coins; i++) {
            int[] c = {r.nextInt(t.places), r.nextInt(r.nextInt(5) == 0 ? 100 : 19), r.nextInt(r.nextInt(4) == 0 ? 100 : 6)};
            t.coins.add(c);
            text.append("coin at " + c[0] + " weight " + c[1] + " worth " + c[2] + " ; ");
            t.lines++;
        }
        for (int i = r.nextInt(3); i > 0; i--) {
            Law law = Law.truth(r, 6, 3, false);
            if (text.length() + law.text().length() < 800) {
                t.may = law;
                text.append("may : ").append(law.text()).append(" ; ");
                t.lines++;
            }
        }
        for (int i = r.nextInt(3); i > 0; i--) {
            Law law = Law.sum(r, 6, 3, true);
            if (text.length() + law.text().length() < 880) {
                t.wears = law;
                text.append("wears : ").append(law.text()).append(" ; ");
                t.lines++;
            }
        }
        t.text = text.toString();
        return t;
    }

    static int pair(int p, int q) {
        return Math.min(p, q) * 10 + Math.max(p, q);
    }

    boolean place(int k) {
        return k >= 0 && k < v.places;
    }

    boolean person(int p) {
        return p >= 0 && p < v.people.size();
    }

    boolean coin(int c) {
        return c >= 0 && c < v.coins.size();
    }

    int n() {
        return v.people.size();
    }

    boolean feud(int p, int q) {
        return s.quarrels.contains(pair(p, q));
    }

    int far(int a, int b) {
        return farBy(a, b, 1 << a);
    }

    private int farBy(int a, int b, int seen) {
        if (a == b) {
            return 0;
        }
        int least = 99;
        for (int[] r : v.roads) {
            for (int side = 0; side < 2; side++) {
                if (r[side] == a && (seen >> r[1 - side] & 1) == 0) {
                    least = Math.min(least, r[2] + farBy(r[1 - side], b, seen | 1 << r[1 - side]));
                }
            }
        }
        return least;
    }

    final Map<Integer, Integer> fars = new HashMap<>();

    int farKnown(int a, int b) {
        return fars.computeIfAbsent(a * 6 + b, k -> far(a, b));
    }

    private long[] facts(int p, int q, int c, int from, int[] road, int hour) {
        int[] a = v.people.get(p);
        int[] b = v.people.get(q);
        return new long[] {a[1] + b[1], v.coins.get(c)[1], farKnown(a[0], from) + farKnown(b[0], from), road[2], hour,
            Math.min(a[1], b[1])};
    }

    boolean mayOn(int p, int q, int c, int from, int[] road, int hour) {
        long[] f = facts(p, q, c, from, road, hour);
        return v.may == null ? f[0] >= f[1] : v.may.holds(f);
    }

    /** How much more worn, or less than 0: why not. */
    int wear(int p, int q, int c, int from, int to, int hour) {
        if (!person(p) || !person(q) || p == q || !coin(c) || !place(to)) {
            return -1;
        }
        boolean any = false;
        for (int[] r : v.roads) {
            if (r[0] == from && r[1] == to || r[1] == from && r[0] == to) {
                any = true;
            }
        }
        if (!any) {
            return -2;
        }
        if (feud(p, q)) {
            return -3;
        }
        for (int[] r : v.roads) {
            if ((r[0] == from && r[1] == to || r[1] == from && r[0] == to) && mayOn(p, q, c, from, r, hour)) {
                long w = v.wears == null ? r[2] : v.wears.told(facts(p, q, c, from, r, hour));
                return (int) (w < 0 ? 0 : w > 9 ? 9 : w);
            }
        }
        return -4;
    }

    int wear(int p, int q, int c, int to) {
        return wear(p, q, c, coin(c) ? s.at[c] : 0, to, s.hour);
    }

    /** All deeds of carrying a coin from a place, in order, each with how much it is worn. */
    List<int[]> deeds(int c, int from) {
        List<int[]> all = new ArrayList<>();
        for (int p = 0; p < n(); p++) {
            for (int q = p + 1; q < n(); q++) {
                for (int to = 0; to < v.places; to++) {
                    int w = wear(p, q, c, from, to, s.hour);
                    if (w >= 0) {
                        all.add(new int[] {10000 + p * 1000 + q * 100 + c * 10 + to, w});
                    }
                }
            }
        }
        return all;
    }

    List<List<int[]>> allDeeds(int c) {
        List<List<int[]>> all = new ArrayList<>();
        for (int k = 0; k < v.places; k++) {
            all.add(deeds(c, k));
        }
        return all;
    }

    int deed(long d) {
        if (d >= 10 && d <= 19) {
            s.hour = (int) d - 10;
            return 0;
        }
        if (d >= 100 && d <= 199) {
            int p = (int) (d - 100) / 10;
            int q = (int) d % 10;
            if (!person(p) || !person(q) || p == q) {
                return 1;
            }
            if (!s.quarrels.remove(pair(p, q))) {
                s.quarrels.add(pair(p, q));
            }
            return 0;
        }
        if (d < 10000 || d > 19999) {
            return 1;
        }
        String digits = "" + d;
        int p = digits.charAt(1) - '0';
        int q = digits.charAt(2) - '0';
        int c = digits.charAt(3) - '0';
        int to = digits.charAt(4) - '0';
        if (p >= q) {
            return 1;
        }
        int w = wear(p, q, c, to);
        if (w < 0) {
            return -w;
        }
        s.at[c] = to;
        s.rim[c] += w;
        s.carried++;
        return 0;
    }

    void remember(State before) {
        past.add(before);
        if (past.size() > 10) {
            past.remove(0);
        }
    }

    int year(int seed, int times) {
        int x = seed;
        int done = 0;
        State before = s.copy();
        for (int i = 0; i < times; i++) {
            int[] d = new int[6];
            int saved = x;
            for (int j = 0; j < 6; j++) {
                saved = 1103515245 * saved + 12345;
                d[j] = saved >>> 16;
            }
            int used = d[0] % 6 == 0 ? 2 : d[0] % 6 == 1 ? 3 : 5;
            long deed = d[0] % 6 == 0 ? 10 + d[1] % 10
                : d[0] % 6 == 1 ? 100 + 10 * (d[1] % 8) + d[2] % 8
                : 10000 + 1000 * (d[1] % 8) + 100 * (d[2] % 8) + 10 * (d[3] % 4) + d[4] % 6;
            for (int j = 0; j < used; j++) {
                x = 1103515245 * x + 12345;
            }
            if (deed(deed) == 0) {
                done++;
            }
        }
        if (done > 0) {
            remember(before);
        }
        return done;
    }

    /** The first row of just so many carryings, or null. */
    List<Integer> row(List<List<int[]>> deeds, int from, int to, int left) {
        if (left == 0) {
            return from == to ? new ArrayList<>() : null;
        }
        String key = from + "," + to + "," + left;
        if (noRow.contains(key)) {
            return null;
        }
        for (int[] d : deeds.get(from)) {
            List<Integer> rest = row(deeds, d[0] % 10, to, left - 1);
            if (rest != null) {
                rest.add(0, d[0]);
                return rest;
            }
        }
        noRow.add(key);
        return null;
    }

    private final TreeSet<String> noRow = new TreeSet<>();

    List<Integer> soonest(int c, int to) {
        noRow.clear();
        List<List<int[]>> deeds = allDeeds(c);
        for (int i = 0; i <= 7; i++) {
            List<Integer> row = row(deeds, s.at[c], to, i);
            if (row != null) {
                return row;
            }
        }
        return null;
    }

    /** Rows by which the rim is so, behind which the coin is at a place (NONE: anywhere). */
    long rows(List<List<int[]>> deeds, int from, int to, long[] rims, int i, Map<Integer, Long> known) {
        if (i == rims.length) {
            return to == NONE || from == to ? 1 : 0;
        }
        Long before = known.get(i * 10 + from);
        if (before != null) {
            return before;
        }
        long sum = 0;
        for (int[] d : deeds.get(from)) {
            if (rims[i] == NONE || rims[i] == d[1]) {
                sum += rows(deeds, d[0] % 10, to, rims, i + 1, known);
            }
        }
        known.put(i * 10 + from, sum);
        return sum;
    }

    List<Integer> firstWorn(List<List<int[]>> deeds, int from, long[] rims, int i, Map<Integer, Long> known) {
        if (i == rims.length) {
            return new ArrayList<>();
        }
        for (int[] d : deeds.get(from)) {
            if ((rims[i] == NONE || rims[i] == d[1]) && rows(deeds, d[0] % 10, NONE, rims, i + 1, known) > 0) {
                List<Integer> rest = firstWorn(deeds, d[0] % 10, rims, i + 1, known);
                rest.add(0, d[0]);
                return rest;
            }
        }
        return null;
    }

    int who(int c, long[] rims, int at) {
        int set = 0;
        for (int p = 0; p < n(); p++) {
            List<List<int[]>> all = allDeeds(c);
            if (whoRows(all, s.at[c], rims, 0, at, p, new HashMap<>())) {
                set |= 1 << p;
            }
        }
        return set;
    }

    private boolean whoRows(List<List<int[]>> deeds, int from, long[] rims, int i, int at, int p, Map<Integer, Boolean> known) {
        if (i == rims.length) {
            return true;
        }
        Boolean before = known.get(i * 10 + from);
        if (before != null) {
            return before;
        }
        boolean found = false;
        for (int[] d : deeds.get(from)) {
            boolean him = d[0] / 1000 % 10 == p || d[0] / 100 % 10 == p;
            if ((rims[i] == NONE || rims[i] == d[1]) && (i != at || him)) {
                found |= whoRows(deeds, d[0] % 10, rims, i + 1, at, p, known);
            }
        }
        known.put(i * 10 + from, found);
        return found;
    }

    int[] pays(int k, int sum, boolean more) {
        int[] best = null;
        for (int set = 0; set < 1 << v.coins.size(); set++) {
            int worth = 0;
            int cost = 0;
            boolean can = true;
            for (int c = 0; c < v.coins.size(); c++) {
                if ((set >> c & 1) == 1) {
                    worth += v.coins.get(c)[2];
                    List<Integer> row = soonest(c, k);
                    can &= row != null;
                    cost += row == null ? 0 : row.size();
                } else if (s.at[c] == k) {
                    can &= !deeds(c, k).isEmpty();
                    cost++;
                }
            }
            if (can && (worth == sum || more && worth >= sum) && (best == null || cost < best[0])) {
                best = new int[] {cost, set};
            }
        }
        return best;
    }

    private int[] bestPartners;

    int[] pairs(int weight) {
        bestPartners = null;
        int[] partner = new int[n()];
        Arrays.fill(partner, -2);
        part(partner, weight);
        return bestPartners;
    }

    private void part(int[] partner, int weight) {
        int p = 0;
        while (p < n() && partner[p] != -2) {
            p++;
        }
        if (p == n()) {
            if (bestPartners == null || better(partner, bestPartners)) {
                bestPartners = partner.clone();
            }
            return;
        }
        for (int q = p + 1; q < n(); q++) {
            if (partner[q] == -2 && !feud(p, q) && v.people.get(p)[1] + v.people.get(q)[1] >= weight) {
                partner[p] = q;
                partner[q] = p;
                part(partner, weight);
                partner[q] = -2;
            }
        }
        partner[p] = NONE;
        part(partner, weight);
        partner[p] = -2;
    }

    static int paired(int[] partner) {
        int many = 0;
        for (int q : partner) {
            many += q == NONE ? 0 : 1;
        }
        return many / 2;
    }

    private static boolean better(int[] a, int[] b) {
        if (paired(a) != paired(b)) {
            return paired(a) > paired(b);
        }
        for (int p = 0; p < a.length; p++) {
            int x = a[p] == NONE ? 99 : a[p];
            int y = b[p] == NONE ? 99 : b[p];
            if (x != y) {
                return x < y;
            }
        }
        return false;
    }

    int lifters(int weight) {
        for (int size = 0; size <= n(); size++) {
            for (int set = 0; set < 1 << n(); set++) {
                int sum = 0;
                for (int p = 0; p < n(); p++) {
                    sum += (set >> p & 1) * v.people.get(p)[1];
                }
                if (Integer.bitCount(set) == size && sum >= weight) {
                    return set;
                }
            }
        }
        return NONE;
    }

    private boolean leads(int a, int b, int shut, int seen) {
        if (a == b) {
            return true;
        }
        for (int[] r : v.roads) {
            for (int side = 0; side < 2; side++) {
                int to = r[1 - side];
                if (r[side] == a && (shut >> to & 1) == 0 && (seen >> to & 1) == 0 && leads(to, b, shut, seen | 1 << to)) {
                    return true;
                }
            }
        }
        return false;
    }

    int guards(int a, int b) {
        for (int size = 0; size <= v.places; size++) {
            for (int set = 0; set < 1 << v.places; set++) {
                boolean told = (set >> a & 1) + (set >> b & 1) > 0;
                if (Integer.bitCount(set) == size && !told && !leads(a, b, set, 1 << a)) {
                    return set;
                }
            }
        }
        return NONE;
    }

    int lift(int set, int t) {
        int next = 0;
        for (int p = 0; p < n(); p++) {
            int many = 0;
            for (int q = 0; q < n(); q++) {
                many += q != p && !feud(p, q) && (set >> q & 1) == 1 ? 1 : 0;
            }
            next |= many >= t ? 1 << p : 0;
        }
        return next;
    }

    int talk(int p, int days) {
        int heard = 1 << p;
        for (int i = 0; i < days; i++) {
            int next = heard;
            for (int a = 0; a < n(); a++) {
                for (int b = 0; b < n(); b++) {
                    if (a != b && (heard >> a & 1) == 1 && !feud(a, b)) {
                        next |= 1 << b;
                    }
                }
            }
            heard = next;
        }
        return heard;
    }

    int[] camps() {
        int[] best = null;
        for (int set = 0; set < 1 << n(); set++) {
            if (n() > 0 && (set & 1) == 0) {
                continue;
            }
            int cost = 0;
            for (int p = 0; p < n(); p++) {
                for (int q = p + 1; q < n(); q++) {
                    boolean apart = (set >> p & 1) != (set >> q & 1);
                    cost += apart != feud(p, q) ? 1 : 0;
                }
            }
            if (best == null || cost < best[0]) {
                best = new int[] {cost, set};
            }
        }
        return best;
    }

    int peace() {
        int[] group = new int[n()];
        for (int p = 0; p < n(); p++) {
            group[p] = p;
        }
        int made = 0;
        for (int round = 0; round < 2; round++) {
            for (int p = 0; p < n(); p++) {
                for (int q = 0; q < n(); q++) {
                    if (group[p] != group[q] && (round == 1 || !feud(p, q))) {
                        made += round;
                        int old = group[q];
                        for (int k = 0; k < n(); k++) {
                            group[k] = group[k] == old ? group[p] : group[k];
                        }
                    }
                }
            }
        }
        return made;
    }

    int hours(long[] told) {
        int set = 0;
        for (int h = 0; h < 10; h++) {
            boolean all = true;
            for (long t : told) {
                int d = (int) (t / 10);
                int p = d / 1000;
                int q = d / 100 % 10;
                int c = d / 10 % 10;
                all &= p < q && coin(c) && wear(p, q, c, s.at[c], d % 10, h) == t % 10;
            }
            set |= all ? 1 << h : 0;
        }
        return set;
    }

    int attempt(int hours, int c, int to) {
        int best = 99;
        int chosen = NONE;
        for (int p = 0; p < n(); p++) {
            for (int q = p + 1; q < n(); q++) {
                int most = 0;
                for (int w = -1; w <= 9; w++) {
                    int many = 0;
                    for (int h = 0; h < 10; h++) {
                        many += (hours >> h & 1) == 1 && Math.max(-1, wear(p, q, c, s.at[c], to, h)) == w ? 1 : 0;
                    }
                    most = Math.max(most, many);
                }
                if (most < best) {
                    best = most;
                    chosen = 10 * p + q;
                }
            }
        }
        return hours == 0 ? NONE : chosen;
    }

    private final Map<Integer, Boolean> forcing = new HashMap<>();

    boolean forces(boolean[][] next, int at, int to, boolean first, int left) {
        if (at == to) {
            return true;
        }
        if (left == 0) {
            return false;
        }
        int key = at * 100 + left * 2 + (first ? 1 : 0);
        Boolean known = forcing.get(key);
        if (known != null) {
            return known;
        }
        boolean some = false;
        boolean all = true;
        for (int k = 0; k < v.places; k++) {
            if (k == at || next[at][k]) {
                boolean so = forces(next, k, to, !first, left - 1);
                some |= so;
                all &= so;
            }
        }
        forcing.put(key, first ? some : all);
        return first ? some : all;
    }

    boolean[][] next(int c) {
        boolean[][] next = new boolean[6][6];
        for (int k = 0; k < v.places; k++) {
            for (int[] d : deeds(c, k)) {
                next[k][d[0] % 10] = true;
            }
        }
        return next;
    }

    /** Number of carryings and the best place. */
    int[] forced(int c, int to) {
        boolean[][] next = next(c);
        forcing.clear();
        for (int i = 0; i <= 30; i++) {
            if (forces(next, s.at[c], to, true, i)) {
                if (i == 0) {
                    return new int[] {0, NONE};
                }
                for (int k = 0; k < v.places; k++) {
                    if (k != s.at[c] && next[s.at[c]][k] && forces(next, k, to, false, i - 1)) {
                        return new int[] {i, k};
                    }
                }
                return new int[] {i, s.at[c]};
            }
        }
        return new int[] {NONE, NONE};
    }

    /** Above, below, roads. */
    int[] chance(int c, int to) {
        boolean[][] open = new boolean[v.roads.size()][2];
        for (int i = 0; i < open.length; i++) {
            for (int side = 0; side < 2; side++) {
                for (int p = 0; p < n(); p++) {
                    for (int q = p + 1; q < n(); q++) {
                        open[i][side] |= !feud(p, q)
                            && mayOn(p, q, c, v.roads.get(i)[side], v.roads.get(i), s.hour);
                    }
                }
            }
        }
        long[] best = {0, 1, NONE};
        goOn(open, s.at[c], to, new long[] {1, 1, 0}, best);
        BigInteger g = BigInteger.valueOf(best[0]).gcd(BigInteger.valueOf(best[1]));
        return new int[] {(int) (best[0] / g.longValue()), (int) (best[1] / g.longValue()), (int) best[2]};
    }

    private void goOn(boolean[][] open, int at, int to, long[] now, long[] best) {
        if (at == to) {
            long left = now[0] * best[1];
            long right = best[0] * now[1];
            if (left > right || left == right && now[2] < best[2]) {
                System.arraycopy(now, 0, best, 0, 3);
            }
        }
        if (now[2] == 5) {
            return;
        }
        for (int i = 0; i < open.length; i++) {
            int[] r = v.roads.get(i);
            for (int side = 0; side < 2; side++) {
                if (open[i][side] && r[side] == at) {
                    goOn(open, r[1 - side], to, new long[] {now[0] * (10 - r[2]), now[1] * 10, now[2] + 1}, best);
                }
            }
        }
    }
}
