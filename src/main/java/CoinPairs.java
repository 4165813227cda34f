import java.util.Arrays;

/** Coins of iron that must be carried by two, in a valley that is told as a text: see ../shared/DOC.md. */
public final class CoinPairs {
    public static final int NONE = -1;

    private static final int NO_SUCH = -2;
    private static final int BAD_NUMBER = -3;
    private static final int TOO_MANY = -4;
    private static final int NOT_NOW = -5;
    private static final int MISSING = -6;
    private static final int NO_NUMBER = -7;
    private static final int WHY_NOT = -10;
    private static final int FAULTY = -30;

    private static final int WHY_NO_SUCH = 1;
    private static final int WHY_NO_ROAD = 2;
    private static final int WHY_QUARREL = 3;
    private static final int WHY_LAW = 4;

    private static final int MAX_TEXT = 900;
    private static final int FED_BYTES = 20;
    private static final int MAX_PLACES = 6;
    private static final int MAX_ROADS = 9;
    private static final int MAX_PEOPLE = 8;
    private static final int MAX_COINS = 4;
    private static final int HOURS = 10;
    private static final int MOST_WORN = 9;
    private static final int NO_WAY = 99;
    private static final int MAX_NEST = 6;
    private static final int MAX_WEIGHT = 99;
    private static final int MAX_SUM = 999;
    private static final int MAX_UNDONE = 10;
    private static final int MAX_TIMES = 40;
    private static final int MAX_ROW = 8;
    private static final int TRAYS = 4;
    private static final int SORTS = 4;
    private static final int TRAY_PLACES = 40;
    private static final int IMAGES = 2;
    private static final int FIRST_CARRYING = 10000;
    private static final int MAX_TOLD = 99999;

    /** All pairs in the order of their deeds; with fewer people those who are not there are left out. */
    private static final int PAIRS = 28;
    private static final int[] LESSER_ONE = {
        0, 0, 0, 0, 0, 0, 0, 1, 1, 1, 1, 1, 1, 2, 2, 2, 2, 2, 3, 3, 3, 3, 4, 4, 4, 5, 5, 6};
    private static final int[] OTHER_ONE = {
        1, 2, 3, 4, 5, 6, 7, 2, 3, 4, 5, 6, 7, 3, 4, 5, 6, 7, 4, 5, 6, 7, 5, 6, 7, 6, 7, 7};

    private final Valley valley = new Valley();
    private final Now now = new Now();
    private final Now before = new Now();
    private final Past past = new Past();
    private final Reader reader = new Reader();
    private final Carriers carriers = new Carriers(valley, now);
    private final Moves moves = new Moves(carriers);
    private final Company company = new Company(valley, now);
    private final Rims rims = new Rims(moves);
    private final Games games = new Games(moves);
    private final Tray[] trays = new Tray[TRAYS];
    private final Valley[] imageValleys = new Valley[IMAGES];
    private final Now[] imageNows = new Now[IMAGES];
    private final boolean[] imageMade = new boolean[IMAGES];
    private int drawn;

    public CoinPairs() {
        for (int i = 0; i < TRAYS; i++) {
            trays[i] = new Tray();
        }
        for (int i = 0; i < IMAGES; i++) {
            imageValleys[i] = new Valley();
            imageNows[i] = new Now();
        }
    }

    // ---- the valley

    public int feed(int a, int b, int c, int d, int e) {
        if (reader.onTape + FED_BYTES > MAX_TEXT) {
            return NOT_NOW;
        }
        reader.append(a);
        reader.append(b);
        reader.append(c);
        reader.append(d);
        reader.append(e);
        return reader.onTape;
    }

    public int valley(int n) {
        if (n < 0 || n > reader.onTape) {
            return BAD_NUMBER;
        }
        if (!reader.readText(n)) {
            return FAULTY - reader.fault;
        }
        valley.copyFrom(reader.read);
        now.begin(valley);
        past.forget();
        return valley.lines;
    }

    public int fault(int what) {
        if (what == 0) {
            return reader.fault;
        }
        return what == 1 ? reader.faultPlace : NONE;
    }

    public int person(int p, int what) {
        if (!valley.hasPerson(p)) {
            return NO_SUCH;
        }
        switch (what) {
            case 0:
                return valley.home[p];
            case 1:
                return valley.strength[p];
            case 2:
                return now.feuds[p];
            default:
                return NO_SUCH;
        }
    }

    public int coin(int c, int what) {
        if (!valley.hasCoin(c)) {
            return NO_SUCH;
        }
        switch (what) {
            case 0:
                return now.at[c];
            case 1:
                return valley.weight[c];
            case 2:
                return valley.worth[c];
            case 3:
                return now.rim[c];
            default:
                return NO_SUCH;
        }
    }

    public int road(int r, int what) {
        if (r < 0 || r >= valley.roads) {
            return NO_SUCH;
        }
        switch (what) {
            case 0:
                return valley.roadFrom[r];
            case 1:
                return valley.roadTo[r];
            case 2:
                return valley.roadLong[r];
            default:
                return NO_SUCH;
        }
    }

    public int far(int a, int b) {
        if (!valley.hasPlace(a) || !valley.hasPlace(b)) {
            return NO_SUCH;
        }
        return valley.distance(a, b);
    }

    public int why(int p, int q, int c, int to) {
        int wear = carriers.wearAt(p, q, c, to, now.hour);
        return wear < 0 ? -wear : 0;
    }

    public int worn(int p, int q, int c, int to) {
        int wear = carriers.wearAt(p, q, c, to, now.hour);
        if (wear == -WHY_NO_SUCH) {
            return NO_SUCH;
        }
        return wear < 0 ? NOT_NOW : wear;
    }

    public int bearers(int c, int to) {
        if (!coinAndPlace(c, to)) {
            return NO_SUCH;
        }
        int many = 0;
        for (int k = 0; k < PAIRS; k++) {
            if (carriers.wearAt(LESSER_ONE[k], OTHER_ONE[k], c, to, now.hour) >= 0) {
                many++;
            }
        }
        return many;
    }

    // ---- deeds

    public int carry(int p, int q, int c, int to) {
        int wear = carriers.wearAt(p, q, c, to, now.hour);
        if (wear < 0) {
            return WHY_NOT + wear;
        }
        past.keep(now);
        now.move(c, to, wear);
        return wear;
    }

    public int quarrel(int p, int q) {
        before.copyFrom(now);
        int reason = carriers.quarrelNow(p, q);
        if (reason != 0) {
            return WHY_NOT - reason;
        }
        past.keep(before);
        return now.feuding(p, q) ? 1 : 0;
    }

    public int hour(int n) {
        before.copyFrom(now);
        int reason = carriers.hourNow(n);
        if (reason != 0) {
            return WHY_NOT - reason;
        }
        past.keep(before);
        return before.hour;
    }

    public int undo(int n) {
        if (n < 1 || n > past.size) {
            return BAD_NUMBER;
        }
        past.goBack(now, n);
        return past.size;
    }

    public int judge(int tray, int what) {
        if (!hasTray(tray) || what < 0 || what > 3) {
            return NO_SUCH;
        }
        if (trays[tray].isMissing()) {
            return MISSING;
        }
        before.copyFrom(now);
        int done = doAll(trays[tray]);
        boolean all = done == trays[tray].size;
        int answer;
        if (what == 0) {
            answer = all ? NONE : done;
        } else if (what == 1) {
            answer = all ? 0 : carriers.tryDeed(trays[tray].numbers[done]);
        } else {
            answer = what == 2 ? now.placesAsDigits() : now.rimsTogether();
        }
        now.copyFrom(before);
        return answer;
    }

    public int perform(int tray) {
        if (!hasTray(tray)) {
            return NO_SUCH;
        }
        if (trays[tray].isMissing()) {
            return MISSING;
        }
        before.copyFrom(now);
        int done = doAll(trays[tray]);
        if (done > 0) {
            past.keep(before);
        }
        return done;
    }

    public int year(int seed, int times) {
        if (times < 1 || times > MAX_TIMES) {
            return BAD_NUMBER;
        }
        before.copyFrom(now);
        drawn = seed;
        int done = 0;
        for (int i = 0; i < times; i++) {
            if (carriers.tryDeed(drawDeed()) == 0) {
                done++;
            }
        }
        if (done > 0) {
            past.keep(before);
        }
        return done;
    }

    /** Does the deeds of a tray till one can't be. */
    private int doAll(Tray tray) {
        for (int i = 0; i < tray.size; i++) {
            if (carriers.tryDeed(tray.numbers[i]) != 0) {
                return i;
            }
        }
        return tray.size;
    }

    private int drawDeed() {
        int kind = draw() % 6;
        if (kind == 0) {
            return 10 + draw() % 10;
        }
        if (kind == 1) {
            int one = draw() % 8;
            return 100 + 10 * one + draw() % 8;
        }
        int first = draw() % 8;
        int second = draw() % 8;
        int c = draw() % 4;
        return deedOf(first, second, c, draw() % 6);
    }

    private int draw() {
        drawn = 1103515245 * drawn + 12345;
        return drawn >>> 16;
    }

    // ---- ways

    public int soonest(int c, int to) {
        if (!coinAndPlace(c, to)) {
            return NO_SUCH;
        }
        moves.learn(c, false);
        moves.measureTo(to);
        return moves.steps[now.at[c]];
    }

    public int way(int c, int to, int i) {
        if (!coinAndPlace(c, to)) {
            return NO_SUCH;
        }
        if (i < 0) {
            return BAD_NUMBER;
        }
        moves.learn(c, false);
        moves.measureTo(to);
        int from = now.at[c];
        if (i >= moves.steps[from]) {
            return NONE;
        }
        int deed = moves.firstDeed(c, from);
        for (int j = 0; j < i && j < MAX_PLACES; j++) {
            deed = moves.firstDeed(c, deed % 10);
        }
        return deed;
    }

    public long rows(int c, int to, int n) {
        if (!coinAndPlace(c, to)) {
            return NO_SUCH;
        }
        if (n < 0 || n > MAX_ROW) {
            return BAD_NUMBER;
        }
        moves.learn(c, false);
        return moves.rowsOf(now.at[c], to, n);
    }

    public int reach(int c) {
        if (!valley.hasCoin(c)) {
            return NO_SUCH;
        }
        moves.learn(c, false);
        return moves.reachedFrom(now.at[c]);
    }

    public int pays(int k, int sum, int what) {
        if (!valley.hasPlace(k) || what < 0 || what > 3) {
            return NO_SUCH;
        }
        if (sum < 0 || sum > MAX_SUM) {
            return BAD_NUMBER;
        }
        moves.learnPaying(k);
        int set = moves.leastPaying(sum, what >= 2);
        if (set == NONE) {
            return NONE;
        }
        return what % 2 == 0 ? moves.carryingsFor(set) : set;
    }

    // ---- together

    public int pairs(int weight) {
        if (!isWeight(weight)) {
            return BAD_NUMBER;
        }
        company.part(weight);
        return company.most[company.everybody()];
    }

    public int with(int weight, int p) {
        if (!valley.hasPerson(p)) {
            return NO_SUCH;
        }
        if (!isWeight(weight)) {
            return BAD_NUMBER;
        }
        company.part(weight);
        return company.partner[p];
    }

    public int lifters(int weight, int what) {
        if (what != 0 && what != 1) {
            return NO_SUCH;
        }
        if (!isWeight(weight)) {
            return BAD_NUMBER;
        }
        return sizeOrSet(company.fewestLifters(weight), what);
    }

    public int guards(int a, int b, int what) {
        if (!valley.hasPlace(a) || !valley.hasPlace(b) || what != 0 && what != 1) {
            return NO_SUCH;
        }
        return sizeOrSet(company.fewestGuards(a, b), what);
    }

    public int rests(int t, int what) {
        if (what < 0 || what > 2) {
            return NO_SUCH;
        }
        if (t < 0 || t > MAX_PEOPLE) {
            return BAD_NUMBER;
        }
        company.findRests(t);
        if (what == 0) {
            return company.restsFound;
        }
        return what == 1 ? company.fewestResting : company.mostResting;
    }

    public int lifting(int set, int t, int n) {
        if (set < 0 || set > company.everybody()) {
            return NO_SUCH;
        }
        if (t < 0 || t > MAX_PEOPLE || n < 0 || n > 999) {
            return BAD_NUMBER;
        }
        int lifts = set;
        for (int i = 0; i < n; i++) {
            lifts = company.liftNext(lifts, t);
        }
        return lifts;
    }

    public int talk(int p, int n) {
        if (!valley.hasPerson(p)) {
            return NO_SUCH;
        }
        if (n < 0 || n > 8) {
            return BAD_NUMBER;
        }
        return company.heardBehind(p, n);
    }

    public int told(int p) {
        if (!valley.hasPerson(p)) {
            return NO_SUCH;
        }
        for (int days = 0; days <= MAX_PEOPLE; days++) {
            if (company.heardBehind(p, days) == company.everybody()) {
                return days;
            }
        }
        return NONE;
    }

    public int camps(int what) {
        if (what != 0 && what != 1) {
            return NO_SUCH;
        }
        int camp = company.bestCamp();
        return what == 0 ? company.changesFor(camp) : camp;
    }

    public int peace() {
        return company.quarrelsToMakeUp();
    }

    // ---- worn

    public long wornBy(int tray, int c) {
        int code = rimCode(tray, c, 0);
        if (code != 0) {
            return code;
        }
        rims.learn(trays[tray], c);
        return rims.rowsFrom(0, now.at[c]);
    }

    public int wornFirst(int tray, int c, int i) {
        int code = rimCode(tray, c, i);
        if (code != 0) {
            return code;
        }
        if (i >= trays[tray].size) {
            return NONE;
        }
        rims.learn(trays[tray], c);
        return rims.firstRowsDeed(c, now.at[c], i);
    }

    public int who(int tray, int c, int i) {
        int code = rimCode(tray, c, i);
        if (code != 0) {
            return code;
        }
        if (i >= trays[tray].size) {
            return NO_NUMBER;
        }
        rims.learn(trays[tray], c);
        return rims.peopleAt(i, now.at[c]);
    }

    public int hours(int tray) {
        if (!hasTray(tray)) {
            return NO_SUCH;
        }
        int code = toldCode(trays[tray]);
        return code != 0 ? code : carriers.hoursOf(trays[tray]);
    }

    public int attempt(int tray, int c, int to) {
        if (!hasTray(tray) || !coinAndPlace(c, to)) {
            return NO_SUCH;
        }
        int code = toldCode(trays[tray]);
        if (code != 0) {
            return code;
        }
        int hourSet = carriers.hoursOf(trays[tray]);
        return hourSet == 0 ? NONE : rims.tellingPair(hourSet, c, to);
    }

    private int rimCode(int tray, int c, int i) {
        if (!hasTray(tray) || !valley.hasCoin(c)) {
            return NO_SUCH;
        }
        int code = trays[tray].rowCode();
        if (code != 0) {
            return code;
        }
        return i < 0 || !trays[tray].allBetween(NONE, MOST_WORN) ? BAD_NUMBER : 0;
    }

    private int toldCode(Tray tray) {
        int code = tray.rowCode();
        if (code != 0) {
            return code;
        }
        return tray.allBetween(0, MAX_TOLD) ? 0 : BAD_NUMBER;
    }

    // ---- by turns

    public int forces(int c, int to) {
        if (!coinAndPlace(c, to)) {
            return NO_SUCH;
        }
        moves.learn(c, false);
        return games.forcedWithin(now.at[c], to);
    }

    public int best(int c, int to) {
        if (!coinAndPlace(c, to)) {
            return NO_SUCH;
        }
        moves.learn(c, false);
        int within = games.forcedWithin(now.at[c], to);
        return within <= 0 ? NONE : games.bestPlace(now.at[c]);
    }

    // ---- chances

    public int chance(int c, int to, int what) {
        if (!coinAndPlace(c, to) || what != 0 && what != 1) {
            return NO_SUCH;
        }
        games.learnChances(c, now.at[c]);
        return games.fraction(games.greatestChance(to), what);
    }

    public int by(int c, int to) {
        if (!coinAndPlace(c, to)) {
            return NO_SUCH;
        }
        games.learnChances(c, now.at[c]);
        return games.fewestRoads(to);
    }

    // ---- trays, images

    public int numbers(int tray, int sort, int n) {
        if (!hasTray(tray) || sort < 0 || sort >= SORTS) {
            return NO_SUCH;
        }
        if (n < 0 || n > TRAY_PLACES) {
            return BAD_NUMBER;
        }
        trays[tray].renew(sort, n);
        return 0;
    }

    public long write(int tray, int i, long v) {
        if (!hasTray(tray)) {
            return NO_SUCH;
        }
        if (trays[tray].isMissing()) {
            return MISSING;
        }
        if (i < 0 || i >= trays[tray].size) {
            return NO_NUMBER;
        }
        return trays[tray].put(i, v);
    }

    public int lists(int tray, int c, int to) {
        if (!hasTray(tray) || !coinAndPlace(c, to)) {
            return NO_SUCH;
        }
        if (trays[tray].isMissing()) {
            return MISSING;
        }
        moves.learn(c, false);
        moves.measureTo(to);
        int from = now.at[c];
        if (moves.steps[from] == NONE) {
            return NOT_NOW;
        }
        int many = Math.min(moves.steps[from], trays[tray].size);
        for (int i = 0; i < many; i++) {
            int deed = moves.firstDeed(c, from);
            trays[tray].put(i, deed);
            from = deed % 10;
        }
        return many;
    }

    public int image(int i) {
        if (i < 0 || i >= IMAGES) {
            return NO_SUCH;
        }
        imageValleys[i].copyFrom(valley);
        imageNows[i].copyFrom(now);
        imageMade[i] = true;
        return 0;
    }

    public int restore(int i) {
        if (i < 0 || i >= IMAGES) {
            return NO_SUCH;
        }
        if (!imageMade[i]) {
            return NOT_NOW;
        }
        valley.copyFrom(imageValleys[i]);
        now.copyFrom(imageNows[i]);
        past.forget();
        return 0;
    }

    public int count(int what) {
        switch (what) {
            case 0:
                return valley.places;
            case 1:
                return valley.roads;
            case 2:
                return valley.people;
            case 3:
                return valley.coins;
            case 4:
                return now.hour;
            case 5:
                return now.quarrelsThereAre();
            case 6:
                return now.carried;
            case 7:
                return now.rimsTogether();
            case 8:
                return past.size;
            case 9:
                return reader.onTape;
            case 10:
                return valley.lines;
            default:
                return NONE;
        }
    }

    private boolean hasTray(int tray) {
        return tray >= 0 && tray < TRAYS;
    }

    private boolean coinAndPlace(int c, int place) {
        return valley.hasCoin(c) && valley.hasPlace(place);
    }

    private static boolean isWeight(int weight) {
        return weight >= 0 && weight <= MAX_WEIGHT;
    }

    private static int sizeOrSet(int set, int what) {
        if (set == NONE) {
            return NONE;
        }
        return what == 0 ? Integer.bitCount(set) : set;
    }

    private static boolean isIn(int set, int one) {
        return (set >> one & 1) != 0;
    }

    private static int deedOf(int p, int q, int c, int to) {
        return FIRST_CARRYING + 1000 * p + 100 * q + 10 * c + to;
    }

    /** What the text tells; it changes only as a whole. */
    private static final class Valley {
        int places = 1;
        int firstHour;
        int lines;
        int roads;
        final int[] roadFrom = new int[MAX_ROADS];
        final int[] roadTo = new int[MAX_ROADS];
        final int[] roadLong = new int[MAX_ROADS];
        int people;
        final int[] home = new int[MAX_PEOPLE];
        final int[] strength = new int[MAX_PEOPLE];
        final int[] feuds = new int[MAX_PEOPLE];
        int coins;
        final int[] coinHome = new int[MAX_COINS];
        final int[] weight = new int[MAX_COINS];
        final int[] worth = new int[MAX_COINS];
        final int[] distances = new int[MAX_PLACES * MAX_PLACES];
        final Laws laws = new Laws();

        void clear() {
            places = 1;
            firstHour = 0;
            lines = 0;
            roads = 0;
            people = 0;
            coins = 0;
            Arrays.fill(feuds, 0);
            Arrays.fill(coinHome, 0);
            laws.clear();
        }

        void copyFrom(Valley other) {
            places = other.places;
            firstHour = other.firstHour;
            lines = other.lines;
            roads = other.roads;
            people = other.people;
            coins = other.coins;
            System.arraycopy(other.roadFrom, 0, roadFrom, 0, MAX_ROADS);
            System.arraycopy(other.roadTo, 0, roadTo, 0, MAX_ROADS);
            System.arraycopy(other.roadLong, 0, roadLong, 0, MAX_ROADS);
            System.arraycopy(other.home, 0, home, 0, MAX_PEOPLE);
            System.arraycopy(other.strength, 0, strength, 0, MAX_PEOPLE);
            System.arraycopy(other.feuds, 0, feuds, 0, MAX_PEOPLE);
            System.arraycopy(other.coinHome, 0, coinHome, 0, MAX_COINS);
            System.arraycopy(other.weight, 0, weight, 0, MAX_COINS);
            System.arraycopy(other.worth, 0, worth, 0, MAX_COINS);
            System.arraycopy(other.distances, 0, distances, 0, MAX_PLACES * MAX_PLACES);
            laws.copyFrom(other.laws);
        }

        boolean hasPlace(int k) {
            return k >= 0 && k < places;
        }

        boolean hasPerson(int p) {
            return p >= 0 && p < people;
        }

        boolean hasCoin(int c) {
            return c >= 0 && c < coins;
        }

        boolean joins(int r, int a, int b) {
            return roadFrom[r] == a && roadTo[r] == b || roadFrom[r] == b && roadTo[r] == a;
        }

        boolean joined(int a, int b) {
            for (int r = 0; r < roads; r++) {
                if (joins(r, a, b)) {
                    return true;
                }
            }
            return false;
        }

        int distance(int a, int b) {
            return distances[a * MAX_PLACES + b];
        }

        void measureDistances() {
            Arrays.fill(distances, NO_WAY);
            for (int k = 0; k < MAX_PLACES; k++) {
                distances[k * MAX_PLACES + k] = 0;
            }
            for (int r = 0; r < roads; r++) {
                shorten(roadFrom[r], roadTo[r], roadLong[r]);
                shorten(roadTo[r], roadFrom[r], roadLong[r]);
            }
            for (int over = 0; over < places; over++) {
                for (int a = 0; a < places; a++) {
                    for (int b = 0; b < places; b++) {
                        shorten(a, b, distance(a, over) + distance(over, b));
                    }
                }
            }
        }

        private void shorten(int a, int b, int length) {
            if (length < distance(a, b)) {
                distances[a * MAX_PLACES + b] = length;
            }
        }
    }

    /** Both laws, each a stretch of one code in which what a sign joins stands ahead of it. */
    private static final class Laws {
        static final int STRONG = 0;
        static final int WEIGHT = 1;
        static final int FAR = 2;
        static final int LONG = 3;
        static final int HOUR = 4;
        static final int LESSER = 5;
        static final int FACTS = 6;
        static final int FIRST_FACT = 1000;
        static final int ADD = 2000;
        static final int TAKE = 2001;
        static final int TIMES = 2002;
        static final int EQUAL = 2003;
        static final int LESS = 2004;
        static final int MORE = 2005;
        static final int AND = 2006;
        static final int OR = 2007;
        static final int NOT = 2008;
        static final int CHOOSE = 2009;
        private static final int STACK = 100;
        private static final int BOUND = 1000000;

        private final int[] code = new int[MAX_TEXT];
        private int length;
        private int mayFrom;
        private int mayTo;
        private int wearsFrom;
        private int wearsTo;
        private final int[] stack = new int[STACK + 2];

        Laws() {
            clear();
        }

        /** What holds without laws is told as laws, too: not strong < weight; long. */
        void clear() {
            code[0] = FIRST_FACT + STRONG;
            code[1] = FIRST_FACT + WEIGHT;
            code[2] = LESS;
            code[3] = NOT;
            code[4] = FIRST_FACT + LONG;
            mayFrom = 0;
            mayTo = 4;
            wearsFrom = 4;
            wearsTo = 5;
            length = 5;
        }

        void copyFrom(Laws other) {
            length = other.length;
            mayFrom = other.mayFrom;
            mayTo = other.mayTo;
            wearsFrom = other.wearsFrom;
            wearsTo = other.wearsTo;
            System.arraycopy(other.code, 0, code, 0, MAX_TEXT);
        }

        void append(int op) {
            if (length < MAX_TEXT) {
                code[length] = op;
                length++;
            }
        }

        int codeSoFar() {
            return length;
        }

        /** The code from a place on is the law may from now on. */
        void closeMay(int from) {
            mayFrom = from;
            mayTo = length;
        }

        void closeWears(int from) {
            wearsFrom = from;
            wearsTo = length;
        }

        /** May tells 1 if it holds, else 0. Both sides of an if are reckoned: only the choice tells. */
        int reckon(boolean may, int[] facts) {
            int from = may ? mayFrom : wearsFrom;
            int to = may ? mayTo : wearsTo;
            int top = 0;
            for (int i = from; i < to && i < MAX_TEXT && top < STACK; i++) {
                int op = code[i];
                if (op < FIRST_FACT) {
                    stack[top] = op;
                } else if (op < FIRST_FACT + FACTS) {
                    stack[top] = facts[op - FIRST_FACT];
                } else {
                    top = Math.max(0, top - joinedBy(op));
                    stack[top] = joinAbove(top, op);
                }
                top++;
            }
            return stack[0];
        }

        private static int joinedBy(int op) {
            if (op == NOT) {
                return 1;
            }
            return op == CHOOSE ? 3 : 2;
        }

        /** The stack has two signs' room above what is reckoned. */
        private int joinAbove(int at, int op) {
            int a = stack[at];
            int b = stack[at + 1];
            long sum = 0;
            switch (op) {
                case ADD:
                    sum = (long) a + b;
                    break;
                case TAKE:
                    sum = (long) a - b;
                    break;
                case TIMES:
                    sum = (long) a * b;
                    break;
                case EQUAL:
                    return a == b ? 1 : 0;
                case LESS:
                    return a < b ? 1 : 0;
                case MORE:
                    return a > b ? 1 : 0;
                case AND:
                    return a & b;
                case OR:
                    return a | b;
                case NOT:
                    return 1 - a;
                default:
                    return a != 0 ? b : stack[at + 2];
            }
            if (sum < -BOUND) {
                return -BOUND;
            }
            return sum > BOUND ? BOUND : (int) sum;
        }
    }

    /** The tape, and how a valley is read from it: the first fault along the text ends the reading. */
    private static final class Reader {
        private static final int END = 0;
        private static final int WORD = 1;
        private static final int NUMBER = 2;
        private static final int SIGN = 3;
        private static final int BAD = 4;
        private static final int MAX_DIGITS = 3;
        private static final String SIGNS = ";:+-*()[]=<>";

        private static final int NO_TOKEN = 1;
        private static final int MISPLACED = 2;
        private static final int OUT_OF_BOUNDS = 3;
        private static final int ONE_TOO_MANY = 4;

        final char[] tape = new char[MAX_TEXT];
        int onTape;
        final Valley read = new Valley();
        int fault;
        int faultPlace = NONE;
        private int length;
        private int kind;
        private int start;
        private int end;
        private int value;
        private int taken;
        private boolean inWears;

        /** The caller has seen to it that there is room. */
        void append(int word) {
            for (int shift = 24; shift >= 0 && onTape < MAX_TEXT; shift -= 8) {
                tape[onTape] = (char) (word >>> shift & 255);
                onTape++;
            }
        }

        boolean readText(int n) {
            length = n;
            end = 0;
            fault = 0;
            faultPlace = NONE;
            read.clear();
            advance();
            boolean good = readHead();
            for (int i = 0; i < MAX_TEXT && good && kind != END; i++) {
                good = readLine() && takeLineEnd();
            }
            read.measureDistances();
            onTape = 0;
            return good;
        }

        private boolean readHead() {
            if (!takeWord("valley") || !takeWord("places") || !takeNumber(1, MAX_PLACES, NONE)) {
                return false;
            }
            read.places = taken;
            if (!takeWord("hour") || !takeNumber(0, HOURS - 1, NONE)) {
                return false;
            }
            read.firstHour = taken;
            return takeLineEnd();
        }

        private boolean takeLineEnd() {
            if (!takeSign(';')) {
                return false;
            }
            read.lines++;
            return true;
        }

        private boolean readLine() {
            if (isWord("road")) {
                return readRoad();
            }
            if (isWord("person")) {
                return readPerson();
            }
            if (isWord("quarrel")) {
                return readQuarrel();
            }
            if (isWord("coin")) {
                return readCoin();
            }
            if (isWord("may")) {
                return readMay();
            }
            return isWord("wears") ? readWears() : refuse(MISPLACED);
        }

        private boolean readRoad() {
            int r = read.roads;
            if (r >= MAX_ROADS) {
                return refuse(ONE_TOO_MANY);
            }
            advance();
            if (!takeNumber(0, read.places - 1, NONE)) {
                return false;
            }
            read.roadFrom[r] = taken;
            if (!takeNumber(0, read.places - 1, taken)) {
                return false;
            }
            read.roadTo[r] = taken;
            if (!takeWord("long") || !takeNumber(1, 9, NONE)) {
                return false;
            }
            read.roadLong[r] = taken;
            read.roads++;
            return true;
        }

        private boolean readPerson() {
            int p = read.people;
            if (p >= MAX_PEOPLE) {
                return refuse(ONE_TOO_MANY);
            }
            advance();
            if (!takeWord("at") || !takeNumber(0, read.places - 1, NONE)) {
                return false;
            }
            read.home[p] = taken;
            if (!takeWord("strong") || !takeNumber(0, 9, NONE)) {
                return false;
            }
            read.strength[p] = taken;
            read.people++;
            return true;
        }

        private boolean readQuarrel() {
            advance();
            if (!takeNumber(0, read.people - 1, NONE)) {
                return false;
            }
            int p = taken;
            if (!takeNumber(0, read.people - 1, p)) {
                return false;
            }
            read.feuds[p] |= 1 << taken;
            read.feuds[taken] |= 1 << p;
            return true;
        }

        private boolean readCoin() {
            int c = read.coins;
            if (c >= MAX_COINS) {
                return refuse(ONE_TOO_MANY);
            }
            advance();
            if (!takeWord("at") || !takeNumber(0, read.places - 1, NONE)) {
                return false;
            }
            read.coinHome[c] = taken;
            if (!takeWord("weight") || !takeNumber(0, 99, NONE)) {
                return false;
            }
            read.weight[c] = taken;
            if (!takeWord("worth") || !takeNumber(0, 99, NONE)) {
                return false;
            }
            read.worth[c] = taken;
            read.coins++;
            return true;
        }

        private boolean readMay() {
            advance();
            inWears = false;
            int from = read.laws.codeSoFar();
            if (!takeSign(':') || !readTruth(0)) {
                return false;
            }
            read.laws.closeMay(from);
            return true;
        }

        private boolean readWears() {
            advance();
            inWears = true;
            int from = read.laws.codeSoFar();
            if (!takeSign(':') || !readSum(0)) {
                return false;
            }
            read.laws.closeWears(from);
            return true;
        }

        private boolean readTruth(int nest) {
            if (!readBoth(nest)) {
                return false;
            }
            for (int i = 0; i < MAX_TEXT && isWord("or"); i++) {
                advance();
                if (!readBoth(nest)) {
                    return false;
                }
                read.laws.append(Laws.OR);
            }
            return true;
        }

        private boolean readBoth(int nest) {
            if (!readUnit(nest)) {
                return false;
            }
            for (int i = 0; i < MAX_TEXT && isWord("and"); i++) {
                advance();
                if (!readUnit(nest)) {
                    return false;
                }
                read.laws.append(Laws.AND);
            }
            return true;
        }

        private boolean readUnit(int nest) {
            if (isWord("not")) {
                if (!enter(nest) || !readUnit(nest + 1)) {
                    return false;
                }
                read.laws.append(Laws.NOT);
                return true;
            }
            if (isSign('[')) {
                return enter(nest) && readTruth(nest + 1) && takeSign(']');
            }
            return readComparison(nest);
        }

        private boolean readComparison(int nest) {
            if (!readSum(nest)) {
                return false;
            }
            int op;
            if (isSign('=')) {
                op = Laws.EQUAL;
            } else if (isSign('<')) {
                op = Laws.LESS;
            } else if (isSign('>')) {
                op = Laws.MORE;
            } else {
                return refuse(MISPLACED);
            }
            advance();
            if (!readSum(nest)) {
                return false;
            }
            read.laws.append(op);
            return true;
        }

        private boolean readSum(int nest) {
            if (!readTerm(nest)) {
                return false;
            }
            for (int i = 0; i < MAX_TEXT && (isSign('+') || isSign('-')); i++) {
                int op = isSign('+') ? Laws.ADD : Laws.TAKE;
                advance();
                if (!readTerm(nest)) {
                    return false;
                }
                read.laws.append(op);
            }
            return true;
        }

        private boolean readTerm(int nest) {
            if (!readAtom(nest)) {
                return false;
            }
            for (int i = 0; i < MAX_TEXT && isSign('*'); i++) {
                advance();
                if (!readAtom(nest)) {
                    return false;
                }
                read.laws.append(Laws.TIMES);
            }
            return true;
        }

        private boolean readAtom(int nest) {
            if (isSign('(')) {
                return enter(nest) && readSum(nest + 1) && takeSign(')');
            }
            if (isWord("if")) {
                return enter(nest) && readChoice(nest + 1);
            }
            int fact = factNamed();
            if (kind != NUMBER && fact == NONE) {
                return refuse(MISPLACED);
            }
            read.laws.append(kind == NUMBER ? value : Laws.FIRST_FACT + fact);
            advance();
            return true;
        }

        private boolean readChoice(int nest) {
            if (!readTruth(nest) || !takeWord("then") || !readSum(nest)) {
                return false;
            }
            if (!takeWord("else") || !readSum(nest) || !takeWord("end")) {
                return false;
            }
            read.laws.append(Laws.CHOOSE);
            return true;
        }

        private int factNamed() {
            if (isWord("strong")) {
                return Laws.STRONG;
            }
            if (isWord("weight")) {
                return Laws.WEIGHT;
            }
            if (isWord("far")) {
                return Laws.FAR;
            }
            if (isWord("long")) {
                return Laws.LONG;
            }
            if (isWord("hour")) {
                return Laws.HOUR;
            }
            return inWears && isWord("lesser") ? Laws.LESSER : NONE;
        }

        private boolean enter(int nest) {
            if (nest >= MAX_NEST) {
                return refuse(ONE_TOO_MANY);
            }
            advance();
            return true;
        }

        private boolean takeWord(String word) {
            if (!isWord(word)) {
                return refuse(MISPLACED);
            }
            advance();
            return true;
        }

        private boolean takeSign(char sign) {
            if (!isSign(sign)) {
                return refuse(MISPLACED);
            }
            advance();
            return true;
        }

        private boolean takeNumber(int low, int high, int unlike) {
            if (kind != NUMBER) {
                return refuse(MISPLACED);
            }
            if (value < low || value > high || value == unlike) {
                return refuse(OUT_OF_BOUNDS);
            }
            taken = value;
            advance();
            return true;
        }

        /** What is no token at all is the least kind of fault, wherever it stands. */
        private boolean refuse(int why) {
            fault = kind == BAD ? NO_TOKEN : why;
            faultPlace = start;
            return false;
        }

        private boolean isWord(String word) {
            if (kind != WORD || end - start != word.length()) {
                return false;
            }
            for (int i = 0; i < word.length(); i++) {
                if (tape[start + i] != word.charAt(i)) {
                    return false;
                }
            }
            return true;
        }

        private boolean isSign(char sign) {
            return kind == SIGN && tape[start] == sign;
        }

        private void advance() {
            start = end;
            while (start < length && (tape[start] == 10 || tape[start] == 32)) {
                start++;
            }
            end = start;
            while (end < length && tape[end] >= 'a' && tape[end] <= 'z') {
                end++;
            }
            if (end > start) {
                kind = WORD;
                return;
            }
            value = 0;
            while (end < length && tape[end] >= '0' && tape[end] <= '9') {
                if (end - start < MAX_DIGITS) {
                    value = 10 * value + tape[end] - '0';
                }
                end++;
            }
            if (end > start) {
                kind = end - start > MAX_DIGITS ? BAD : NUMBER;
            } else if (start >= length) {
                kind = END;
            } else {
                kind = SIGNS.indexOf(tape[start]) >= 0 ? SIGN : BAD;
                end = start + 1;
            }
        }
    }

    /** What deeds change and undoing brings back. */
    private static final class Now {
        final int[] at = new int[MAX_COINS];
        final int[] rim = new int[MAX_COINS];
        final int[] feuds = new int[MAX_PEOPLE];
        int hour;
        int carried;

        void begin(Valley valley) {
            System.arraycopy(valley.coinHome, 0, at, 0, MAX_COINS);
            System.arraycopy(valley.feuds, 0, feuds, 0, MAX_PEOPLE);
            Arrays.fill(rim, 0);
            hour = valley.firstHour;
            carried = 0;
        }

        void copyFrom(Now other) {
            System.arraycopy(other.at, 0, at, 0, MAX_COINS);
            System.arraycopy(other.rim, 0, rim, 0, MAX_COINS);
            System.arraycopy(other.feuds, 0, feuds, 0, MAX_PEOPLE);
            hour = other.hour;
            carried = other.carried;
        }

        void move(int c, int to, int wear) {
            at[c] = to;
            rim[c] += wear;
            carried++;
        }

        boolean feuding(int p, int q) {
            return isIn(feuds[p], q);
        }

        int quarrelsThereAre() {
            int both = 0;
            for (int p = 0; p < MAX_PEOPLE; p++) {
                both += Integer.bitCount(feuds[p]);
            }
            return both / 2;
        }

        int rimsTogether() {
            int sum = 0;
            for (int c = 0; c < MAX_COINS; c++) {
                sum += rim[c];
            }
            return sum;
        }

        /** Coins that aren't there lie at place 0 and so add nothing. */
        int placesAsDigits() {
            int digits = 0;
            for (int c = MAX_COINS - 1; c >= 0; c--) {
                digits = 10 * digits + at[c];
            }
            return digits;
        }
    }

    /** What was before each of the latest calls that did something, in a ring. */
    private static final class Past {
        private final Now[] ring = new Now[MAX_UNDONE];
        private int next;
        int size;

        Past() {
            for (int i = 0; i < MAX_UNDONE; i++) {
                ring[i] = new Now();
            }
        }

        void keep(Now before) {
            ring[next].copyFrom(before);
            next = (next + 1) % MAX_UNDONE;
            size = Math.min(MAX_UNDONE, size + 1);
        }

        void goBack(Now now, int n) {
            next = Math.floorMod(next - n, MAX_UNDONE);
            now.copyFrom(ring[next]);
            size -= n;
        }

        void forget() {
            size = 0;
        }
    }

    private static final class Tray {
        final long[] numbers = new long[TRAY_PLACES];
        int size;
        private int sort = NONE;

        boolean isMissing() {
            return sort == NONE;
        }

        void renew(int newSort, int n) {
            sort = newSort;
            size = n;
            Arrays.fill(numbers, 0);
        }

        long put(int i, long v) {
            numbers[i] = cut(v);
            return numbers[i];
        }

        private long cut(long v) {
            switch (sort) {
                case 0:
                    return (byte) v;
                case 1:
                    return (short) v;
                case 2:
                    return (int) v;
                default:
                    return v;
            }
        }

        /** Why it can't be a row of 1 to 8 numbers, or 0. */
        int rowCode() {
            if (isMissing()) {
                return MISSING;
            }
            return size < 1 || size > MAX_ROW ? TOO_MANY : 0;
        }

        boolean allBetween(int low, int high) {
            for (int i = 0; i < size; i++) {
                if (numbers[i] < low || numbers[i] > high) {
                    return false;
                }
            }
            return true;
        }
    }

    /** Who may carry what, and deeds done. What can't be is told as a reason, or below 0 where a wear is told. */
    private static final class Carriers {
        final Valley valley;
        final Now now;
        private final int[] facts = new int[Laws.FACTS];

        Carriers(Valley valley, Now now) {
            this.valley = valley;
            this.now = now;
        }

        /** From where the coin is now. */
        int wearAt(int p, int q, int c, int to, int hour) {
            if (!areTwo(p, q) || !valley.hasCoin(c) || !valley.hasPlace(to)) {
                return -WHY_NO_SUCH;
            }
            return wearFrom(p, q, c, now.at[c], to, hour);
        }

        /** As if the coin lay somewhere; all that is told is there. */
        int wearFrom(int p, int q, int c, int from, int to, int hour) {
            int r = roadTaken(p, q, c, from, to, hour);
            if (r < 0) {
                return r;
            }
            return Math.max(0, Math.min(MOST_WORN, valley.laws.reckon(false, facts)));
        }

        /** Leaves the facts as they are on the road that it tells. */
        int roadTaken(int p, int q, int c, int from, int to, int hour) {
            if (!valley.joined(from, to)) {
                return -WHY_NO_ROAD;
            }
            if (now.feuding(p, q)) {
                return -WHY_QUARREL;
            }
            face(p, q, c, from, hour);
            for (int r = 0; r < valley.roads; r++) {
                if (valley.joins(r, from, to)) {
                    facts[Laws.LONG] = valley.roadLong[r];
                    if (valley.laws.reckon(true, facts) != 0) {
                        return r;
                    }
                }
            }
            return -WHY_LAW;
        }

        boolean someMayOn(int c, int from, int r) {
            for (int k = 0; k < PAIRS; k++) {
                int p = LESSER_ONE[k];
                int q = OTHER_ONE[k];
                if (valley.hasPerson(q) && !now.feuding(p, q)) {
                    face(p, q, c, from, now.hour);
                    facts[Laws.LONG] = valley.roadLong[r];
                    if (valley.laws.reckon(true, facts) != 0) {
                        return true;
                    }
                }
            }
            return false;
        }

        private void face(int p, int q, int c, int from, int hour) {
            facts[Laws.STRONG] = valley.strength[p] + valley.strength[q];
            facts[Laws.LESSER] = Math.min(valley.strength[p], valley.strength[q]);
            facts[Laws.WEIGHT] = valley.weight[c];
            facts[Laws.FAR] = valley.distance(valley.home[p], from) + valley.distance(valley.home[q], from);
            facts[Laws.HOUR] = hour;
        }

        private boolean areTwo(int p, int q) {
            return valley.hasPerson(p) && valley.hasPerson(q) && p != q;
        }

        int quarrelNow(int p, int q) {
            if (!areTwo(p, q)) {
                return WHY_NO_SUCH;
            }
            now.feuds[p] ^= 1 << q;
            now.feuds[q] ^= 1 << p;
            return 0;
        }

        int hourNow(int n) {
            if (n < 0 || n >= HOURS) {
                return WHY_NO_SUCH;
            }
            now.hour = n;
            return 0;
        }

        /** Does a deed if it can be: 0, else why not. */
        int tryDeed(long v) {
            if (v >= 10 && v <= 19) {
                return hourNow((int) v - 10);
            }
            if (v >= 100 && v <= 199) {
                return quarrelNow(((int) v - 100) / 10, (int) v % 10);
            }
            if (v < FIRST_CARRYING || v > 19999) {
                return WHY_NO_SUCH;
            }
            int deed = (int) v - FIRST_CARRYING;
            int p = deed / 1000;
            int q = deed / 100 % 10;
            int c = deed / 10 % 10;
            int wear = p < q ? wearAt(p, q, c, deed % 10, now.hour) : -WHY_NO_SUCH;
            if (wear < 0) {
                return -wear;
            }
            now.move(c, deed % 10, wear);
            return 0;
        }

        /** The hours by which all that a tray tells is so. */
        int hoursOf(Tray tray) {
            int set = 0;
            for (int hour = 0; hour < HOURS; hour++) {
                if (allSoAt(tray, hour)) {
                    set |= 1 << hour;
                }
            }
            return set;
        }

        private boolean allSoAt(Tray tray, int hour) {
            for (int i = 0; i < tray.size; i++) {
                int toldNumber = (int) tray.numbers[i];
                int deed = toldNumber / 10;
                int p = deed / 1000;
                int q = deed / 100 % 10;
                if (p >= q || wearAt(p, q, deed / 10 % 10, deed % 10, hour) != toldNumber % 10) {
                    return false;
                }
            }
            return true;
        }
    }

    /** How a coin can go from any place to any other one, as things are now, and what follows from that alone. */
    private static final class Moves {
        final Carriers carriers;
        private final int[] wears = new int[MAX_PLACES * MAX_PLACES * PAIRS];
        private final int[] many = new int[MAX_PLACES * MAX_PLACES];
        final int[] steps = new int[MAX_PLACES];
        private final long[] ways = new long[MAX_PLACES];
        private final long[] nextWays = new long[MAX_PLACES];
        private final int[] toCome = new int[MAX_COINS];
        private final int[] toStayOut = new int[MAX_COINS];

        Moves(Carriers carriers) {
            this.carriers = carriers;
        }

        int places() {
            return carriers.valley.places;
        }

        /** How much the rim is worn is reckoned only where it is asked for: the law may be long. */
        void learn(int c, boolean rimsToo) {
            for (int from = 0; from < places(); from++) {
                for (int to = 0; to < places(); to++) {
                    learnStep(c, from, to, rimsToo);
                }
            }
        }

        private void learnStep(int c, int from, int to, boolean rimsToo) {
            int step = from * MAX_PLACES + to;
            int hour = carriers.now.hour;
            boolean joined = carriers.valley.joined(from, to);
            many[step] = 0;
            for (int k = 0; k < PAIRS; k++) {
                int wear = NONE;
                if (joined && carriers.valley.hasPerson(OTHER_ONE[k])) {
                    wear = rimsToo
                        ? carriers.wearFrom(LESSER_ONE[k], OTHER_ONE[k], c, from, to, hour)
                        : carriers.roadTaken(LESSER_ONE[k], OTHER_ONE[k], c, from, to, hour);
                }
                wears[step * PAIRS + k] = Math.max(NONE, wear);
                many[step] += wear < 0 ? 0 : 1;
            }
        }

        /** NONE if the pair can't. */
        int wearOf(int from, int to, int k) {
            return wears[(from * MAX_PLACES + to) * PAIRS + k];
        }

        boolean canGo(int from, int to) {
            return many[from * MAX_PLACES + to] > 0;
        }

        /** The fewest carryings from each place to one of them. */
        void measureTo(int to) {
            Arrays.fill(steps, NONE);
            steps[to] = 0;
            for (int round = 1; round < places(); round++) {
                for (int from = 0; from < places(); from++) {
                    if (steps[from] == NONE && stepsOnTo(from, round - 1)) {
                        steps[from] = round;
                    }
                }
            }
        }

        private boolean stepsOnTo(int from, int left) {
            for (int to = 0; to < places(); to++) {
                if (steps[to] == left && canGo(from, to)) {
                    return true;
                }
            }
            return false;
        }

        /** The least deed that brings the coin nearer to the place that was measured: there is one, unless it is there. */
        int firstDeed(int c, int from) {
            for (int k = 0; k < PAIRS; k++) {
                for (int to = 0; to < places(); to++) {
                    if (wearOf(from, to, k) != NONE && steps[to] != NONE && steps[to] < steps[from]) {
                        return deedOf(LESSER_ONE[k], OTHER_ONE[k], c, to);
                    }
                }
            }
            return FIRST_CARRYING + from;
        }

        long rowsOf(int from, int to, int n) {
            Arrays.fill(ways, 0);
            ways[from] = 1;
            for (int i = 0; i < n; i++) {
                Arrays.fill(nextWays, 0);
                for (int a = 0; a < places(); a++) {
                    for (int b = 0; b < places(); b++) {
                        nextWays[b] += ways[a] * many[a * MAX_PLACES + b];
                    }
                }
                System.arraycopy(nextWays, 0, ways, 0, MAX_PLACES);
            }
            return ways[to];
        }

        int reachedFrom(int from) {
            int set = 1 << from;
            for (int round = 1; round < places(); round++) {
                for (int k = 0; k < places(); k++) {
                    if (isIn(set, k)) {
                        set |= placesNextTo(k);
                    }
                }
            }
            return set;
        }

        int placesNextTo(int from) {
            int set = 0;
            for (int to = 0; to < places(); to++) {
                if (canGo(from, to)) {
                    set |= 1 << to;
                }
            }
            return set;
        }

        /** For each coin, the carryings by which it is at a place, and by which it isn't (NONE: it can't). */
        void learnPaying(int place) {
            for (int c = 0; c < carriers.valley.coins; c++) {
                int from = carriers.now.at[c];
                learn(c, false);
                measureTo(place);
                toCome[c] = steps[from];
                if (from != place) {
                    toStayOut[c] = 0;
                } else {
                    toStayOut[c] = placesNextTo(place) != 0 ? 1 : NONE;
                }
            }
        }

        /** NONE: it can't be so. */
        int carryingsFor(int set) {
            int sum = 0;
            for (int c = 0; c < carriers.valley.coins; c++) {
                int needed = isIn(set, c) ? toCome[c] : toStayOut[c];
                if (needed == NONE) {
                    return NONE;
                }
                sum += needed;
            }
            return sum;
        }

        int leastPaying(int sum, boolean orMore) {
            int chosen = NONE;
            int fewest = 0;
            for (int set = 0; set < 1 << carriers.valley.coins; set++) {
                int worth = worthOf(set);
                int needed = carryingsFor(set);
                boolean pays = worth == sum || orMore && worth > sum;
                if (pays && needed != NONE && (chosen == NONE || needed < fewest)) {
                    chosen = set;
                    fewest = needed;
                }
            }
            return chosen;
        }

        private int worthOf(int set) {
            int sum = 0;
            for (int c = 0; c < carriers.valley.coins; c++) {
                if (isIn(set, c)) {
                    sum += carriers.valley.worth[c];
                }
            }
            return sum;
        }
    }

    /** People together, by whom they have quarrelled with; and guards on the roads. */
    private static final class Company {
        private final Valley valley;
        private final Now now;
        final int[] most = new int[1 << MAX_PEOPLE];
        final int[] partner = new int[MAX_PEOPLE];
        int restsFound;
        int fewestResting;
        int mostResting;

        Company(Valley valley, Now now) {
            this.valley = valley;
            this.now = now;
        }

        int everybody() {
            return (1 << valley.people) - 1;
        }

        private int friendsOf(int p) {
            return everybody() & ~now.feuds[p] & ~(1 << p);
        }

        /** Most pairs within each set, then who is with whom in the first way to have so many of all. */
        void part(int weight) {
            for (int set = 0; set <= everybody(); set++) {
                most[set] = mostPairsIn(set, weight);
            }
            Arrays.fill(partner, NONE);
            int left = everybody();
            for (int p = 0; p < valley.people; p++) {
                if (isIn(left, p)) {
                    int q = firstPartner(left, p, weight);
                    left &= ~(1 << p);
                    if (q != NONE) {
                        left &= ~(1 << q);
                        partner[p] = q;
                        partner[q] = p;
                    }
                }
            }
        }

        /** Smaller sets are known already. */
        private int mostPairsIn(int set, int weight) {
            if (set == 0) {
                return 0;
            }
            int p = leastIn(set);
            int rest = set & ~(1 << p);
            int found = most[rest];
            for (int q = p + 1; q < valley.people; q++) {
                if (isIn(rest, q) && canPair(p, q, weight)) {
                    found = Math.max(found, 1 + most[rest & ~(1 << q)]);
                }
            }
            return found;
        }

        private int leastIn(int set) {
            int p = 0;
            while (p < valley.people - 1 && !isIn(set, p)) {
                p++;
            }
            return p;
        }

        private int firstPartner(int left, int p, int weight) {
            int rest = left & ~(1 << p);
            for (int q = p + 1; q < valley.people; q++) {
                if (isIn(rest, q) && canPair(p, q, weight) && 1 + most[rest & ~(1 << q)] == most[left]) {
                    return q;
                }
            }
            return NONE;
        }

        private boolean canPair(int p, int q, int weight) {
            return !now.feuding(p, q) && valley.strength[p] + valley.strength[q] >= weight;
        }

        int fewestLifters(int weight) {
            int chosen = NONE;
            for (int set = 0; set <= everybody(); set++) {
                boolean fewer = chosen == NONE || Integer.bitCount(set) < Integer.bitCount(chosen);
                if (fewer && strengthOf(set) >= weight) {
                    chosen = set;
                }
            }
            return chosen;
        }

        private int strengthOf(int set) {
            int sum = 0;
            for (int p = 0; p < valley.people; p++) {
                if (isIn(set, p)) {
                    sum += valley.strength[p];
                }
            }
            return sum;
        }

        int fewestGuards(int a, int b) {
            int chosen = NONE;
            if (a == b || valley.joined(a, b)) {
                return chosen;
            }
            for (int set = 0; set < 1 << valley.places; set++) {
                boolean fewer = chosen == NONE || Integer.bitCount(set) < Integer.bitCount(chosen);
                if (fewer && !isIn(set, a) && !isIn(set, b) && !isIn(passedFrom(a, set), b)) {
                    chosen = set;
                }
            }
            return chosen;
        }

        private int passedFrom(int a, int guarded) {
            int set = 1 << a;
            for (int round = 1; round < valley.places; round++) {
                for (int r = 0; r < valley.roads; r++) {
                    int ends = 1 << valley.roadFrom[r] | 1 << valley.roadTo[r];
                    if ((ends & set) != 0 && (ends & guarded) == 0) {
                        set |= ends;
                    }
                }
            }
            return set;
        }

        int liftNext(int set, int t) {
            int next = 0;
            for (int p = 0; p < valley.people; p++) {
                if (Integer.bitCount(friendsOf(p) & set) >= t) {
                    next |= 1 << p;
                }
            }
            return next;
        }

        void findRests(int t) {
            restsFound = 0;
            fewestResting = NONE;
            mostResting = NONE;
            for (int set = 0; set <= everybody(); set++) {
                if (liftNext(set, t) == set) {
                    int size = Integer.bitCount(set);
                    fewestResting = restsFound == 0 ? size : Math.min(size, fewestResting);
                    mostResting = Math.max(size, mostResting);
                    restsFound++;
                }
            }
        }

        int heardBehind(int p, int days) {
            int set = 1 << p;
            for (int day = 0; day < days; day++) {
                set = tellOn(set);
            }
            return set;
        }

        private int tellOn(int set) {
            int heard = set;
            for (int p = 0; p < valley.people; p++) {
                if (isIn(set, p)) {
                    heard |= friendsOf(p);
                }
            }
            return heard;
        }

        /** The camp of person 0; the other ones are the other camp. */
        int bestCamp() {
            int chosen = everybody() & 1;
            for (int camp = 1; camp <= everybody(); camp += 2) {
                if (changesFor(camp) < changesFor(chosen)) {
                    chosen = camp;
                }
            }
            return chosen;
        }

        int changesFor(int camp) {
            int both = 0;
            for (int p = 0; p < valley.people; p++) {
                int others = isIn(camp, p) ? everybody() & ~camp : camp;
                both += Integer.bitCount(now.feuds[p] ^ others);
            }
            return both / 2;
        }

        /** All of one group have quarrelled with all of another one, so one made up joins any two groups. */
        int quarrelsToMakeUp() {
            int groups = 0;
            int seen = 0;
            for (int p = 0; p < valley.people; p++) {
                if (!isIn(seen, p)) {
                    seen |= heardBehind(p, MAX_PEOPLE);
                    groups++;
                }
            }
            return Math.max(0, groups - 1);
        }
    }

    /** Who carried a coin by how its rim was worn; and by whom to find out the hour. */
    private static final class Rims {
        private final Moves moves;
        private final Carriers carriers;
        private final long[] rowsLeft = new long[(MAX_ROW + 1) * MAX_PLACES];
        private final int[] outcomes = new int[MOST_WORN + 2];
        private final long[] rimsTold = new long[MAX_ROW];

        Rims(Moves moves) {
            this.moves = moves;
            this.carriers = moves.carriers;
        }

        /** For each carrying and place, in how many ways the tray can go on from there; of a tray of 1 to 8 numbers. */
        void learn(Tray tray, int c) {
            int n = Math.min(tray.size, MAX_ROW);
            System.arraycopy(tray.numbers, 0, rimsTold, 0, n);
            moves.learn(c, true);
            for (int from = 0; from < moves.places(); from++) {
                rowsLeft[n * MAX_PLACES + from] = 1;
            }
            for (int i = n - 1; i >= 0; i--) {
                for (int from = 0; from < moves.places(); from++) {
                    rowsLeft[i * MAX_PLACES + from] = rowsOnFrom(i, from);
                }
            }
        }

        private long rowsOnFrom(int i, int from) {
            long sum = 0;
            for (int to = 0; to < moves.places(); to++) {
                for (int k = 0; k < PAIRS; k++) {
                    if (fits(i, moves.wearOf(from, to, k))) {
                        sum += rowsFrom(i + 1, to);
                    }
                }
            }
            return sum;
        }

        private boolean fits(int i, int wear) {
            return wear != NONE && (rimsTold[i] == NONE || rimsTold[i] == wear);
        }

        long rowsFrom(int i, int from) {
            return rowsLeft[i * MAX_PLACES + from];
        }

        int firstRowsDeed(int c, int from, int i) {
            if (rowsFrom(0, from) == 0) {
                return NONE;
            }
            int deed = firstFitting(0, c, from);
            for (int j = 1; j <= i && j < MAX_ROW; j++) {
                deed = firstFitting(j, c, deed % 10);
            }
            return deed;
        }

        /** Rows go on from there, so there is one. */
        private int firstFitting(int i, int c, int from) {
            for (int k = 0; k < PAIRS; k++) {
                for (int to = 0; to < moves.places(); to++) {
                    if (fits(i, moves.wearOf(from, to, k)) && rowsFrom(i + 1, to) > 0) {
                        return deedOf(LESSER_ONE[k], OTHER_ONE[k], c, to);
                    }
                }
            }
            return FIRST_CARRYING + from;
        }

        int peopleAt(int i, int from) {
            int lies = 1 << from;
            for (int j = 0; j < i && j < MAX_ROW; j++) {
                lies = placesBehind(j, lies);
            }
            int people = 0;
            for (int k = 0; k < PAIRS; k++) {
                if (canHaveBeen(i, k, lies)) {
                    people |= 1 << LESSER_ONE[k] | 1 << OTHER_ONE[k];
                }
            }
            return people;
        }

        private int placesBehind(int i, int lies) {
            int next = 0;
            for (int from = 0; from < moves.places(); from++) {
                for (int to = 0; to < moves.places() && isIn(lies, from); to++) {
                    for (int k = 0; k < PAIRS; k++) {
                        if (fits(i, moves.wearOf(from, to, k))) {
                            next |= 1 << to;
                        }
                    }
                }
            }
            return next;
        }

        private boolean canHaveBeen(int i, int k, int lies) {
            for (int from = 0; from < moves.places(); from++) {
                for (int to = 0; to < moves.places() && isIn(lies, from); to++) {
                    if (fits(i, moves.wearOf(from, to, k)) && rowsFrom(i + 1, to) > 0) {
                        return true;
                    }
                }
            }
            return false;
        }

        /** NONE if there are fewer than two people. */
        int tellingPair(int hourSet, int c, int to) {
            int chosen = NONE;
            int least = HOURS + 1;
            for (int k = 0; k < PAIRS; k++) {
                if (carriers.valley.hasPerson(OTHER_ONE[k])) {
                    int alike = mostAlike(hourSet, k, c, to);
                    if (alike < least) {
                        least = alike;
                        chosen = 10 * LESSER_ONE[k] + OTHER_ONE[k];
                    }
                }
            }
            return chosen;
        }

        /** That they can't is one outcome, whyever they can't. */
        private int mostAlike(int hourSet, int k, int c, int to) {
            Arrays.fill(outcomes, 0);
            int greatest = 0;
            for (int hour = 0; hour < HOURS; hour++) {
                if (isIn(hourSet, hour)) {
                    int wear = carriers.wearAt(LESSER_ONE[k], OTHER_ONE[k], c, to, hour);
                    int outcome = 1 + Math.max(NONE, wear);
                    outcomes[outcome]++;
                    greatest = Math.max(greatest, outcomes[outcome]);
                }
            }
            return greatest;
        }
    }

    /** A coin carried by turns, and how likely a purchase is made. */
    private static final class Games {
        /** Each step forces from a place more, for the one or the other one, or none ever will. */
        private static final int ENOUGH_STEPS = 2 * MAX_PLACES;
        private static final int MAX_WAY = 5;
        private static final int SURE = 100000;

        private final Moves moves;
        private final Valley valley;
        private final int[] onward = new int[MAX_PLACES];
        private final int[] chances = new int[(MAX_WAY + 1) * MAX_PLACES];
        private final boolean[] open = new boolean[2 * MAX_ROADS];
        private int otherForced;

        Games(Moves moves) {
            this.moves = moves;
            this.valley = moves.carriers.valley;
        }

        /** Places from which it is forced within so many, by whose turn it is; the coin's moves are learnt. */
        int forcedWithin(int from, int to) {
            for (int k = 0; k < valley.places; k++) {
                onward[k] = moves.placesNextTo(k) | 1 << k;
            }
            int mine = 1 << to;
            otherForced = 1 << to;
            if (from == to) {
                return 0;
            }
            for (int n = 1; n <= ENOUGH_STEPS; n++) {
                int nextMine = 1 << to | someGoInto(otherForced);
                if (isIn(nextMine, from)) {
                    return n;
                }
                otherForced = 1 << to | allGoInto(mine);
                mine = nextMine;
            }
            return NONE;
        }

        private int someGoInto(int target) {
            int set = 0;
            for (int k = 0; k < valley.places; k++) {
                if ((onward[k] & target) != 0) {
                    set |= 1 << k;
                }
            }
            return set;
        }

        private int allGoInto(int target) {
            int set = 0;
            for (int k = 0; k < valley.places; k++) {
                if ((onward[k] & ~target) == 0) {
                    set |= 1 << k;
                }
            }
            return set;
        }

        /** Behind forcedWithin(), which has left from where the other one can't help it one carrying later. */
        int bestPlace(int from) {
            int good = onward[from] & otherForced;
            for (int k = 0; k < valley.places; k++) {
                if (k != from && isIn(good, k)) {
                    return k;
                }
            }
            return isIn(good, from) ? from : NONE;
        }

        /** For each number of roads and place the greatest chance, in parts of SURE, which five tenths keep whole. */
        void learnChances(int c, int from) {
            learnOpenRoads(c);
            Arrays.fill(chances, 0);
            chances[from] = SURE;
            for (int i = 1; i <= MAX_WAY; i++) {
                for (int r = 0; r < valley.roads; r++) {
                    if (open[2 * r]) {
                        goOn(i, valley.roadFrom[r], valley.roadTo[r], valley.roadLong[r]);
                    }
                    if (open[2 * r + 1]) {
                        goOn(i, valley.roadTo[r], valley.roadFrom[r], valley.roadLong[r]);
                    }
                }
            }
        }

        private void learnOpenRoads(int c) {
            for (int r = 0; r < valley.roads; r++) {
                open[2 * r] = moves.carriers.someMayOn(c, valley.roadFrom[r], r);
                open[2 * r + 1] = moves.carriers.someMayOn(c, valley.roadTo[r], r);
            }
        }

        private void goOn(int i, int from, int to, int length) {
            int likely = chances[(i - 1) * MAX_PLACES + from] / 10 * (10 - length);
            int here = i * MAX_PLACES + to;
            chances[here] = Math.max(chances[here], likely);
        }

        int greatestChance(int to) {
            int greatest = 0;
            for (int i = 0; i <= MAX_WAY; i++) {
                greatest = Math.max(greatest, chances[i * MAX_PLACES + to]);
            }
            return greatest;
        }

        int fewestRoads(int to) {
            int greatest = greatestChance(to);
            for (int i = 0; i <= MAX_WAY && greatest > 0; i++) {
                if (chances[i * MAX_PLACES + to] == greatest) {
                    return i;
                }
            }
            return NONE;
        }

        /** In lowest terms nothing but twos and fives can be taken from SURE. */
        int fraction(int parts, int what) {
            int above = parts;
            int below = SURE;
            for (int i = 0; i < MAX_WAY; i++) {
                if (above % 2 == 0) {
                    above /= 2;
                    below /= 2;
                }
                if (above % 5 == 0) {
                    above /= 5;
                    below /= 5;
                }
            }
            return what == 0 ? above : below;
        }
    }
}
