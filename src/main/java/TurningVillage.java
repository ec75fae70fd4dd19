import java.util.Arrays;

/**
 * A village on a raft that turns with the wind, amid a land that stays.
 *
 * All that depends on days is asked by TURNS: there are eight of them, so a span of days is told by
 * how often each TURN was, and a search for a day by the first day of each TURN.
 */
public final class TurningVillage {
    public static final int NONE = -1, BAD = -2, NOT = -3, FULL = -4;

    /** PLACES, ROWS, TENANTS and TURNS: eight of each, counted round by {@code & LAST}. */
    private static final int EIGHT = 8;
    private static final int LAST = 7;
    private static final int THINGS = 5;
    private static final int WELL = 2;
    private static final int FIELD = 4;
    private static final int DAYS = 100;
    private static final int MOST_TIME = 999;
    private static final int MOST_BYTES = 60;
    private static final int MOST_BRIDGES = 4;
    private static final int MOST_GALES = 60;
    private static final int MOST_ITEMS = 60;
    private static final int MOST_HISTORY = 12;
    private static final int MOST_CHANCE = 16;
    private static final int SHEETS = 4;
    private static final int BYTES = 0;
    private static final int SHORTS = 1;
    private static final int FORMS = 3;

    /** What set() and reaped() answer in place of BAD. */
    private static final int BAD_SETTING = -5;
    /** Where the answer is a long: the least one and 2 more. */
    private static final long BAD_LONG = (1L << 63) + 2;
    /** What get() answers in place of any refusal. */
    private static final int LEAST_INT = 1 << 31;
    private static final int NULL = 1;
    private static final int INDEX = 2;
    private static final int CAST = 3;
    private static final int STORE = 4;
    private static final int SIZE = 5;

    private final Land land;
    private final Gales gales;
    private final Chance chance;
    private final Walker walker;
    private final Walker companion;
    private final Tenants tenants;
    private final Harvest harvest;
    private final Sheet[] sheets;
    private int finding;

    public TurningVillage() {
        land = new Land();
        gales = new Gales();
        chance = new Chance();
        walker = new Walker();
        companion = new Walker();
        tenants = new Tenants();
        harvest = new Harvest();
        sheets = new Sheet[SHEETS];
        for (int s = 0; s < SHEETS; s++) {
            sheets[s] = new Sheet();
        }
    }

    // ---- land, gales

    public int type(int b) {
        if (!within(b, 255)) {
            return BAD;
        }
        return land.append(b);
    }

    public int wipe() {
        return land.empty();
    }

    public int fault() {
        return land.fault;
    }

    public int place(int place, int what) {
        if (!within(place, LAST) || !within(what, 2)) {
            return BAD;
        }
        if (what == 0) {
            return land.things[place];
        }
        return what == 1 ? 1 - land.closed[place] : land.suns[place];
    }

    public int bridge(int a, int b, int day) {
        if (!within(a, LAST) || !within(b, LAST) || a == b || !isDay(day)) {
            return BAD;
        }
        for (int k = 0; k < land.bridges && k < MOST_BRIDGES; k++) {
            if (land.joins(k, a, b) && land.meetsAt(k, gales.turns[day])) {
                return 1;
            }
        }
        return 0;
    }

    public int gale(int day, int from, int time) {
        if (!isDay(day) || !within(from, 1) || !gales.mayBeTold(time)) {
            return BAD;
        }
        if (!gales.add(day, from, time)) {
            return FULL;
        }
        gales.reckonTurns();
        return gales.number - 1;
    }

    public int read(int s, int time) {
        if (!isSheet(s) || !gales.mayBeTold(time)) {
            return BAD;
        }
        Sheet sheet = sheets[s];
        if (sheet.lost) {
            return found(NULL);
        }
        int took = 0;
        for (int i = 0; i < sheet.size && i < MOST_ITEMS; i++) {
            if (gale(sheet.items[i], 0, time) < 0) {
                break;
            }
            took++;
        }
        return took;
    }

    public int takeBack(int gale, int time) {
        if (!within(gale, gales.number - 1) || !gales.mayBeTold(time)) {
            return BAD;
        }
        if (gales.isTaken(gale)) {
            return NOT;
        }
        gales.remove(gale, time);
        gales.reckonTurns();
        return 1;
    }

    public int set(int what, int v) {
        if (!within(what, 2) || !within(v, what == 0 ? MOST_TIME : LAST)) {
            return BAD_SETTING;
        }
        int was = gales.change(what, v);
        gales.reckonTurns();
        return was;
    }

    public int sun(int place, int v) {
        if (!within(place, LAST) || !within(v, 9)) {
            return BAD;
        }
        int was = land.suns[place];
        land.suns[place] = v;
        return was;
    }

    public int turn(int day) {
        return isDay(day) ? gales.turns[day] : BAD;
    }

    public int door(int row, int day, int what) {
        if (!within(row, LAST) || !isDay(day) || !within(what, 2)) {
            return BAD;
        }
        int place = (row + gales.turns[day]) & LAST;
        if (what == 0) {
            return place;
        }
        return what == 1 ? land.things[place] : land.suns[place];
    }

    // ---- shares, works

    public long share(int row, int thing, int from, int to, int what) {
        if (!within(row, LAST) || !isThing(thing) || !isSpan(from, to) || !within(what, 1)) {
            return BAD_LONG;
        }
        gales.tally(from, to);
        return lowestTerms(daysWith(row, thing), to - from + 1, what);
    }

    public int shine(int row, int from, int to) {
        if (!within(row, LAST) || !isSpan(from, to)) {
            return BAD;
        }
        gales.tally(from, to);
        int all = 0;
        for (int turn = 0; turn < EIGHT; turn++) {
            all += gales.daysOfTurn[turn] * land.suns[(row + turn) & LAST];
        }
        return all;
    }

    public int ahead(int thing, int from, int to, int what) {
        if (!isThing(thing) || !isSpan(from, to) || !within(what, 1)) {
            return BAD;
        }
        gales.tally(from, to);
        int first = 0;
        int most = daysWith(0, thing);
        int fewest = most;
        for (int row = 1; row < EIGHT; row++) {
            int days = daysWith(row, thing);
            if (days > most) {
                most = days;
                first = row;
            }
            fewest = Math.min(fewest, days);
        }
        return what == 0 ? first : most - fewest;
    }

    public int next(int row, int thing, int other, int day) {
        if (!within(row, LAST) || !isThing(thing) || !isThing(other) || !isDay(day)) {
            return BAD;
        }
        gales.findFirstDays(day);
        int first = DAYS;
        for (int turn = 0; turn < EIGHT; turn++) {
            if (land.canWork(row, thing, other, turn)) {
                first = Math.min(first, gales.firstDays[turn]);
            }
        }
        return first < DAYS ? first : NONE;
    }

    public long likely(int row, int thing, int other, int day, int n, int g, int what) {
        boolean good = within(row, LAST) && isThing(thing) && isThing(other) && isDay(day)
            && within(n, MOST_HISTORY) && within(g, MOST_CHANCE) && within(what, 1);
        if (!good) {
            return BAD_LONG;
        }
        chance.begin(gales.turns[day]);
        for (int i = 0; i < n; i++) {
            chance.oneDay(g);
            for (int turn = 0; turn < EIGHT; turn++) {
                if (land.canWork(row, thing, other, turn)) {
                    chance.weights[turn] = 0;
                }
            }
        }
        return lowestTerms(chance.all - chance.left(), chance.all, what);
    }

    // ---- ways

    public int soon(int row, int place, int day) {
        if (!within(row, LAST) || !within(place, LAST) || !isDay(day)) {
            return BAD;
        }
        return walkTo(row, place, day);
    }

    public int carried(int row, int place, int day) {
        if (!within(row, LAST) || !within(place, LAST) || !isDay(day)) {
            return BAD;
        }
        return walkTo(row, place, day) == NONE ? NONE : walker.stepsTo(place);
    }

    public int meet(int a, int b, int day, int what) {
        if (!within(a, LAST) || !within(b, LAST) || a == b || !isDay(day) || !within(what, 1)) {
            return BAD;
        }
        walker.begin(a);
        companion.begin(b);
        for (int today = day; today < DAYS; today++) {
            walker.oneDay(land, gales.turns[today]);
            companion.oneDay(land, gales.turns[today]);
            for (int place = 0; place < EIGHT; place++) {
                if (walker.isOn(place) && companion.isOn(place)) {
                    return what == 0 ? today : place;
                }
            }
        }
        return NONE;
    }

    // ---- tenants

    public int wish(int tenant, int thing, int v) {
        if (!within(tenant, LAST) || !isThing(thing) || !within(v, 9)) {
            return BAD;
        }
        return tenants.changeWish(tenant, thing, v);
    }

    public int lives(int tenant) {
        return within(tenant, LAST) ? tenants.rows[tenant] : BAD;
    }

    public int joy(int tenant, int row, int from, int to) {
        if (!within(tenant, LAST) || !within(row, LAST) || !isSpan(from, to)) {
            return BAD;
        }
        gales.tally(from, to);
        return tenants.joyIn(tenant, row, land, gales.daysOfTurn);
    }

    public int swap(int from, int to) {
        if (!isSpan(from, to)) {
            return BAD;
        }
        reckonJoys(from, to);
        return tenants.changeUntilNobodyWould();
    }

    public int best(int tenant, int from, int to) {
        if ((tenant != NONE && !within(tenant, LAST)) || !isSpan(from, to)) {
            return BAD;
        }
        reckonJoys(from, to);
        tenants.findBest();
        return tenant == NONE ? tenants.bestJoy() : tenants.bestRows[tenant];
    }

    public int envy(int from, int to) {
        if (!isSpan(from, to)) {
            return BAD;
        }
        reckonJoys(from, to);
        return tenants.envious();
    }

    // ---- reaped, wells

    public int reaped(int row, int v) {
        if (!within(row, LAST) || (v != NONE && !within(v, MOST_HISTORY))) {
            return BAD_SETTING;
        }
        int was = harvest.known[row];
        harvest.known[row] = v;
        return was;
    }

    public int history(int day, int n, int what) {
        if (!isDay(day) || !within(n, MOST_HISTORY) || day + n > DAYS || !within(what, 3)) {
            return BAD;
        }
        harvest.search(land, day == 0 ? gales.begin : gales.turns[day - 1], n);
        if (what == 0) {
            return harvest.fitting;
        }
        if (what == 1) {
            return harvest.first;
        }
        if (harvest.fitting == 0) {
            return NOT;
        }
        return what == 2 ? harvest.sureWith : harvest.sureWithout;
    }

    public int waits(int place, int day) {
        if (!within(place, LAST) || !isDay(day)) {
            return BAD;
        }
        gales.findFirstDays(day);
        return longestWait(place, day);
    }

    public int dig(int day, int most) {
        if (!isDay(day) || !within(most, DAYS - 1)) {
            return BAD;
        }
        gales.findFirstDays(day);
        int chosen = NONE;
        int least = most + 1;
        for (int place = 0; place < EIGHT; place++) {
            int wait = longestWait(place, day);
            if (wait != NONE && wait < least) {
                least = wait;
                chosen = place;
            }
        }
        return chosen;
    }

    // ---- sheets

    public int sheet(int s, int form, int n) {
        if (!isSheet(s) || !isForm(form) || n > MOST_ITEMS) {
            return BAD;
        }
        if (n < 0) {
            return found(SIZE);
        }
        sheets[s].renew(form, n);
        return n;
    }

    public int lose(int s) {
        if (!isSheet(s)) {
            return BAD;
        }
        Sheet sheet = sheets[s];
        if (sheet.lost) {
            return found(NULL);
        }
        sheet.lost = true;
        return sheet.size;
    }

    public int put(int s, int form, int i, int v) {
        if (!isSheet(s) || !isForm(form)) {
            return BAD;
        }
        int number = sheets[s].findingAt(form, i);
        if (number != 0) {
            return found(number);
        }
        sheets[s].keep(i, v);
        return 1;
    }

    public int get(int s, int form, int i) {
        if (!isSheet(s) || !isForm(form)) {
            return LEAST_INT;
        }
        int number = sheets[s].findingAt(form, i);
        if (number != 0) {
            finding = number;
            return LEAST_INT;
        }
        return sheets[s].items[i];
    }

    public int copy(int s, int i, int t, int j, int n) {
        if (!isSheet(s) || !isSheet(t)) {
            return BAD;
        }
        Sheet source = sheets[s];
        Sheet target = sheets[t];
        if (source.lost || target.lost) {
            return found(NULL);
        }
        if (source.form != target.form) {
            return found(STORE);
        }
        if (!source.has(i, n) || !target.has(j, n)) {
            return found(INDEX);
        }
        System.arraycopy(source.items, i, target.items, j, n);
        return 1;
    }

    public int write(int day, int s) {
        if (!isDay(day) || !isSheet(s)) {
            return BAD;
        }
        Sheet sheet = sheets[s];
        if (sheet.lost) {
            return found(NULL);
        }
        int many = Math.min(sheet.size, DAYS - day);
        for (int i = 0; i < many; i++) {
            sheet.keep(i, gales.turns[day + i]);
        }
        return many;
    }

    public int count(int what) {
        switch (what) {
            case 0: return gales.number;
            case 1: return gales.counting();
            case 2: return land.length;
            case 3: return land.bridges;
            case 4: return land.closedPaths();
            case 5: return gales.asOf;
            case 6: return gales.wing;
            case 7: return tenants.inOwnRow();
            case 8: return finding;
            default: return BAD;
        }
    }

    public long digest() {
        long h = 17;
        for (int what = 0; what < 8; what++) {
            h = 31 * h + count(what);
        }
        h = 31 * h + land.fault;
        h = digestPlaces(h);
        h = 31 * h + gales.turns[0];
        h = 31 * h + gales.turns[25];
        h = 31 * h + gales.turns[50];
        h = 31 * h + gales.turns[75];
        h = 31 * h + gales.turns[99];
        h = digestRows(h);
        for (int thing = 0; thing < THINGS; thing++) {
            h = 31 * h + ahead(thing, 0, 99, 0);
            h = 31 * h + ahead(thing, 0, 99, 1);
        }
        h = digestTenants(h);
        for (int what = 0; what < 4; what++) {
            h = 31 * h + history(20, 6, what);
        }
        h = 31 * h + dig(0, 50);
        h = 31 * h + meet(0, 4, 10, 0);
        return 31 * h + meet(0, 4, 10, 1);
    }

    private long digestPlaces(long before) {
        long h = before;
        for (int place = 0; place < EIGHT; place++) {
            h = 31 * h + place(place, 0);
            h = 31 * h + place(place, 1);
            h = 31 * h + place(place, 2);
        }
        return h;
    }

    private long digestRows(long before) {
        long h = before;
        for (int row = 0; row < EIGHT; row++) {
            h = 31 * h + door(row, 50, 1);
            h = 31 * h + door(row, 50, 2);
            h = 31 * h + shine(row, 0, 99);
            h = 31 * h + soon(row, 0, 10);
            h = 31 * h + carried(row, 0, 10);
            h = 31 * h + waits(row, 0);
        }
        return h;
    }

    /** The best way to live is looked for once, not once for each TENANT. */
    private long digestTenants(long before) {
        long h = before;
        reckonJoys(10, 30);
        tenants.findBest();
        for (int tenant = 0; tenant < EIGHT; tenant++) {
            h = 31 * h + tenants.rows[tenant];
            h = 31 * h + tenants.bestRows[tenant];
        }
        h = 31 * h + tenants.bestJoy();
        return 31 * h + tenants.envious();
    }

    // ---- what the calls share

    private static boolean within(int v, int most) {
        return v >= 0 && v <= most;
    }

    private static boolean isDay(int day) {
        return within(day, DAYS - 1);
    }

    private static boolean isSpan(int from, int to) {
        return isDay(from) && isDay(to) && from <= to;
    }

    private static boolean isThing(int thing) {
        return within(thing, THINGS - 1);
    }

    private static boolean isSheet(int s) {
        return within(s, SHEETS - 1);
    }

    private static boolean isForm(int form) {
        return within(form, FORMS - 1);
    }

    private int found(int number) {
        finding = number;
        return -10 - number;
    }

    /** Above (what = 0) or below (1) of a FRACTION; 0 becomes 0 by 1, since gcd(0, below) is below. */
    private static long lowestTerms(long above, long below, int what) {
        long divisor = below;
        long rest = above;
        // Euclid halves the rest in two steps at most: below 2 to the 49th, 98 steps are the most.
        for (int step = 0; step < 100 && rest != 0; step++) {
            long smaller = divisor % rest;
            divisor = rest;
            rest = smaller;
        }
        if (divisor <= 0) {
            return BAD_LONG;
        }
        return what == 0 ? above / divisor : below / divisor;
    }

    /** By the days that gales.tally() has counted. */
    private int daysWith(int row, int thing) {
        int days = 0;
        for (int turn = 0; turn < EIGHT; turn++) {
            if (land.things[(row + turn) & LAST] == thing) {
                days += gales.daysOfTurn[turn];
            }
        }
        return days;
    }

    /** The DAY on which the walker from a ROW comes to a PLACE, or NONE; the walker then knows by how many STEPS. */
    private int walkTo(int row, int place, int day) {
        walker.begin(row);
        for (int today = day; today < DAYS; today++) {
            walker.oneDay(land, gales.turns[today]);
            if (walker.isOn(place)) {
                return today;
            }
        }
        return NONE;
    }

    private void reckonJoys(int from, int to) {
        gales.tally(from, to);
        tenants.reckonJoys(land, gales.daysOfTurn);
    }

    /** WAIT by the days that gales.findFirstDays() has found. */
    private int longestWait(int place, int day) {
        int longest = 0;
        for (int row = 0; row < EIGHT; row++) {
            int first = DAYS;
            for (int turn = 0; turn < EIGHT; turn++) {
                int before = (row + turn) & LAST;
                if (before == place || land.things[before] == WELL) {
                    first = Math.min(first, gales.firstDays[turn]);
                }
            }
            if (first >= DAYS) {
                return NONE;
            }
            longest = Math.max(longest, first - day);
        }
        return longest;
    }

    /** THE LAND: its text, and what that says, which is read anew whenever the text changes. */
    private static final class Land {
        final int[] text = new int[MOST_BYTES];
        int length = 0;
        /** An empty text ends where its first sign should be. */
        int fault = 0;
        final int[] things = new int[EIGHT];
        final int[] closed = new int[EIGHT];
        final int[] suns = new int[EIGHT];
        int bridges = 0;
        final int[] oneEnd = new int[MOST_BRIDGES];
        final int[] otherEnd = new int[MOST_BRIDGES];
        final int[] modulus = new int[MOST_BRIDGES];
        final int[] remainder = new int[MOST_BRIDGES];

        int append(int sign) {
            if (length >= MOST_BYTES) {
                return FULL;
            }
            text[length] = sign;
            length++;
            interpret();
            return length;
        }

        int empty() {
            int was = length;
            length = 0;
            interpret();
            return was;
        }

        private void interpret() {
            forget();
            fault = takeSigns();
            if (fault == NONE) {
                fault = takeParts();
            }
            if (fault != NONE) {
                forget();
            }
        }

        private void forget() {
            Arrays.fill(things, 0);
            Arrays.fill(closed, 0);
            bridges = 0;
        }

        private int takeSigns() {
            for (int i = 0; i < EIGHT; i++) {
                int thing = thingOf(signAt(i));
                if (thing == NONE) {
                    return i;
                }
                things[i] = thing;
            }
            return NONE;
        }

        private int takeParts() {
            int at = EIGHT;
            for (int part = 0; part < MOST_BYTES && at < length; part++) {
                if (signAt(at) != ';') {
                    return at;
                }
                int kind = signAt(at + 1);
                if (kind != 'x' && kind != 'b') {
                    return at + 1;
                }
                int wrong = kind == 'x' ? takePath(at + 2) : takeBridge(at + 1);
                if (wrong != NONE) {
                    return wrong;
                }
                at += kind == 'x' ? 3 : 6;
            }
            return NONE;
        }

        private int takePath(int at) {
            int place = figureAt(at);
            if (!within(place, LAST)) {
                return at;
            }
            closed[place] = 1;
            return NONE;
        }

        /** The bridge whose b is at a place of the text. */
        private int takeBridge(int at) {
            if (bridges >= MOST_BRIDGES) {
                return at;
            }
            int one = figureAt(at + 1);
            if (!within(one, LAST)) {
                return at + 1;
            }
            int other = figureAt(at + 2);
            if (!within(other, LAST) || other == one) {
                return at + 2;
            }
            int by = figureAt(at + 3);
            if (by < 1 || by > EIGHT) {
                return at + 3;
            }
            int rest = figureAt(at + 4);
            if (!within(rest, by - 1)) {
                return at + 4;
            }
            oneEnd[bridges] = one;
            otherEnd[bridges] = other;
            modulus[bridges] = by;
            remainder[bridges] = rest;
            bridges++;
            return NONE;
        }

        /** NONE behind the end: no part of the text can go on with that. */
        private int signAt(int i) {
            return i >= 0 && i < length && i < MOST_BYTES ? text[i] : NONE;
        }

        private int figureAt(int i) {
            int sign = signAt(i);
            return sign >= '0' && sign <= '9' ? sign - '0' : NONE;
        }

        private static int thingOf(int sign) {
            switch (sign) {
                case '.': return 0;
                case 'm': return 1;
                case 'w': return WELL;
                case 's': return 3;
                case 'f': return FIELD;
                default: return NONE;
            }
        }

        /** k is below the number of bridges, here and in meetsAt(). */
        boolean joins(int k, int a, int b) {
            return (oneEnd[k] == a && otherEnd[k] == b) || (oneEnd[k] == b && otherEnd[k] == a);
        }

        boolean meetsAt(int k, int turn) {
            int by = modulus[k];
            return by > 0 && turn % by == remainder[k];
        }

        boolean canWork(int row, int thing, int other, int turn) {
            return things[(row + turn) & LAST] == thing && things[(row + 1 + turn) & LAST] == other;
        }

        int closedPaths() {
            int many = 0;
            for (int place = 0; place < EIGHT; place++) {
                many += closed[place];
            }
            return many;
        }
    }

    /** GALES as they were told and taken back, the SETTINGS, and the TURN of each DAY by these. */
    private static final class Gales {
        int number = 0;
        final int[] days = new int[MOST_GALES];
        final int[] froms = new int[MOST_GALES];
        final int[] told = new int[MOST_GALES];
        /** NONE: not taken back. */
        final int[] taken = new int[MOST_GALES];
        int latest = 0;
        int asOf = MOST_TIME;
        int wing = 0;
        int begin = 0;
        final int[] turns = new int[DAYS];
        final int[] daysOfTurn = new int[EIGHT];
        final int[] firstDays = new int[EIGHT];

        boolean mayBeTold(int time) {
            return time >= latest && time <= MOST_TIME;
        }

        /** Answers whether there was room. */
        boolean add(int day, int from, int time) {
            if (number >= MOST_GALES) {
                return false;
            }
            days[number] = day;
            froms[number] = from;
            told[number] = time;
            taken[number] = NONE;
            latest = time;
            number++;
            return true;
        }

        boolean isTaken(int gale) {
            return taken[gale] != NONE;
        }

        void remove(int gale, int time) {
            taken[gale] = time;
            latest = time;
        }

        int change(int what, int v) {
            int was;
            if (what == 0) {
                was = asOf;
                asOf = v;
            } else if (what == 1) {
                was = wing;
                wing = v;
            } else {
                was = begin;
                begin = v;
            }
            return was;
        }

        private boolean counts(int gale) {
            return told[gale] <= asOf && (taken[gale] == NONE || taken[gale] > asOf);
        }

        int counting() {
            int many = 0;
            for (int gale = 0; gale < number && gale < MOST_GALES; gale++) {
                if (counts(gale)) {
                    many++;
                }
            }
            return many;
        }

        void reckonTurns() {
            Arrays.fill(turns, 0);
            for (int gale = 0; gale < number && gale < MOST_GALES; gale++) {
                if (counts(gale)) {
                    turns[days[gale]] += froms[gale] == 0 ? 1 : wing;
                }
            }
            int turn = begin;
            for (int day = 0; day < DAYS; day++) {
                turn = (turn + turns[day]) & LAST;
                turns[day] = turn;
            }
        }

        void tally(int from, int to) {
            Arrays.fill(daysOfTurn, 0);
            for (int day = from; day <= to; day++) {
                daysOfTurn[turns[day]]++;
            }
        }

        /** The first DAY of each TURN, from a DAY on; DAYS where there is none. */
        void findFirstDays(int from) {
            Arrays.fill(firstDays, DAYS);
            for (int day = DAYS - 1; day >= from; day--) {
                firstDays[turns[day]] = day;
            }
        }
    }

    /** Of LIKELY: by how many of all ways each TURN has come about without the work being done. */
    private static final class Chance {
        final long[] weights = new long[EIGHT];
        /** 16 to the number of DAYS. */
        long all = 1;

        void begin(int turn) {
            Arrays.fill(weights, 0);
            weights[turn] = 1;
            all = 1;
        }

        void oneDay(int g) {
            long carried = weights[LAST];
            for (int turn = 0; turn < EIGHT; turn++) {
                long here = weights[turn];
                weights[turn] = here * (MOST_CHANCE - g) + carried * g;
                carried = here;
            }
            all *= MOST_CHANCE;
        }

        long left() {
            long sum = 0;
            for (int turn = 0; turn < EIGHT; turn++) {
                sum += weights[turn];
            }
            return sum;
        }
    }

    /** One who walks: the fewest STEPS to each ROW (0 to 7) and PLACE (8 to 15) by the DAYS gone by. */
    private static final class Walker {
        private static final int SPOTS = 16;
        /** More STEPS than DAYS allow: not there yet. */
        private static final int FAR = 1000;
        final int[] steps = new int[SPOTS];
        final int[] before = new int[SPOTS];

        void begin(int row) {
            Arrays.fill(steps, FAR);
            steps[row] = 0;
        }

        void oneDay(Land land, int turn) {
            System.arraycopy(steps, 0, before, 0, SPOTS);
            for (int here = 0; here < EIGHT; here++) {
                int after = (here + 1) & LAST;
                join(here, after);
                join(here, EIGHT + ((here + turn) & LAST));
                if (land.closed[here] == 0) {
                    join(EIGHT + here, EIGHT + after);
                }
            }
            for (int k = 0; k < land.bridges && k < MOST_BRIDGES; k++) {
                if (land.meetsAt(k, turn)) {
                    join(EIGHT + land.oneEnd[k], EIGHT + land.otherEnd[k]);
                }
            }
        }

        /** Every STEP can be taken either way; it begins where one was the DAY before. */
        private void join(int a, int b) {
            steps[a] = Math.min(steps[a], before[b] + 1);
            steps[b] = Math.min(steps[b], before[a] + 1);
        }

        boolean isOn(int place) {
            return steps[EIGHT + place] < FAR;
        }

        int stepsTo(int place) {
            return steps[EIGHT + place];
        }
    }

    /** TENANTS, where they live, and their JOY in each ROW over the span that was asked last. */
    private static final class Tenants {
        private static final int ALL_ROWS = 255;
        /** Each change adds to the JOY of all, which is 8 times 9 on 100 DAYS at most. */
        private static final int MOST_CHANGES = 7200;
        final int[] rows = new int[EIGHT];
        final int[] wishes = new int[EIGHT * THINGS];
        final int[] joys = new int[EIGHT * EIGHT];
        /** By the ROWS that the first TENANTS have: the most JOY of the others. */
        final int[] mostJoy = new int[ALL_ROWS + 1];
        final int[] bestRows = new int[EIGHT];

        Tenants() {
            for (int tenant = 0; tenant < EIGHT; tenant++) {
                rows[tenant] = tenant;
            }
        }

        int changeWish(int tenant, int thing, int v) {
            int at = tenant * THINGS + thing;
            int was = wishes[at];
            wishes[at] = v;
            return was;
        }

        int inOwnRow() {
            int many = 0;
            for (int tenant = 0; tenant < EIGHT; tenant++) {
                if (rows[tenant] == tenant) {
                    many++;
                }
            }
            return many;
        }

        int joyIn(int tenant, int row, Land land, int[] daysOfTurn) {
            int sum = 0;
            for (int turn = 0; turn < EIGHT; turn++) {
                int thing = land.things[(row + turn) & LAST];
                sum += daysOfTurn[turn] * wishes[tenant * THINGS + thing];
            }
            return sum;
        }

        void reckonJoys(Land land, int[] daysOfTurn) {
            for (int tenant = 0; tenant < EIGHT; tenant++) {
                for (int row = 0; row < EIGHT; row++) {
                    joys[tenant * EIGHT + row] = joyIn(tenant, row, land, daysOfTurn);
                }
            }
        }

        int changeUntilNobodyWould() {
            int changes = 0;
            while (changes < MOST_CHANGES && changeFirstPair()) {
                changes++;
            }
            return changes;
        }

        private boolean changeFirstPair() {
            for (int a = 0; a < EIGHT; a++) {
                for (int b = a + 1; b < EIGHT; b++) {
                    if (wouldChange(a, b)) {
                        int row = rows[a];
                        rows[a] = rows[b];
                        rows[b] = row;
                        return true;
                    }
                }
            }
            return false;
        }

        private boolean wouldChange(int a, int b) {
            int moreOfA = joys[a * EIGHT + rows[b]] - joys[a * EIGHT + rows[a]];
            int moreOfB = joys[b * EIGHT + rows[a]] - joys[b * EIGHT + rows[b]];
            return moreOfA >= 0 && moreOfB >= 0 && moreOfA + moreOfB > 0;
        }

        void findBest() {
            mostJoy[ALL_ROWS] = 0;
            for (int used = ALL_ROWS - 1; used >= 0; used--) {
                int tenant = Integer.bitCount(used);
                int most = 0;
                for (int row = 0; row < EIGHT; row++) {
                    if ((used >> row & 1) == 0) {
                        most = Math.max(most, joyWith(tenant, row, used));
                    }
                }
                mostJoy[used] = most;
            }
            int used = 0;
            for (int tenant = 0; tenant < EIGHT; tenant++) {
                int row = leastBestRow(tenant, used);
                bestRows[tenant] = row;
                used |= 1 << row;
            }
        }

        /** What this TENANT in a ROW and the later ones have, when the ones ahead use those ROWS. */
        private int joyWith(int tenant, int row, int used) {
            return joys[tenant * EIGHT + row] + mostJoy[used | 1 << row];
        }

        private int leastBestRow(int tenant, int used) {
            for (int row = 0; row < EIGHT; row++) {
                if ((used >> row & 1) == 0 && joyWith(tenant, row, used) == mostJoy[used]) {
                    return row;
                }
            }
            return 0;
        }

        int bestJoy() {
            return mostJoy[0];
        }

        int envious() {
            int many = 0;
            for (int tenant = 0; tenant < EIGHT; tenant++) {
                int most = 0;
                for (int row = 0; row < EIGHT; row++) {
                    most = Math.max(most, joys[tenant * EIGHT + row]);
                }
                if (most > joys[tenant * EIGHT + rows[tenant]]) {
                    many++;
                }
            }
            return many;
        }
    }

    /**
     * What ROWS reaped, and the HISTORIES that fit. A crop holds the DAYS with a FIELD of all known
     * ROWS in one number, four bits a ROW: twelve DAYS at most never run over into the next one.
     */
    private static final class Harvest {
        final int[] known = new int[EIGHT];
        final long[] cropOfTurn = new long[EIGHT];
        /** Of the first so many DAYS of the history that is looked at; of none: no bit, the TURN ahead, no crop. */
        final int[] bits = new int[MOST_HISTORY + 1];
        final int[] turns = new int[MOST_HISTORY + 1];
        final long[] crops = new long[MOST_HISTORY + 1];
        int fitting = 0;
        int first = NONE;
        int sureWith = 0;
        int sureWithout = 0;

        Harvest() {
            for (int row = 0; row < EIGHT; row++) {
                known[row] = NONE;
            }
        }

        void search(Land land, int turnAhead, int n) {
            long wanted = reckonCrops(land);
            fitting = 0;
            first = NONE;
            sureWith = (1 << n) - 1;
            sureWithout = sureWith;
            turns[0] = turnAhead;
            // The first DAY is the highest bit of the counter, so that most of a history is like the last one:
            // only the DAYS whose bits the step to this counter has changed are unlike (of the first one: all).
            for (int counter = 0; counter < 1 << n; counter++) {
                int unlike = Math.min(n, Integer.bitCount(counter ^ (counter - 1)));
                for (int day = n - unlike; day < n; day++) {
                    extend(day, counter >> (n - 1 - day) & 1);
                }
                if (crops[n] == wanted) {
                    note(bits[n], (1 << n) - 1);
                }
            }
        }

        /** The crop of each TURN, by what is known; answers the one that all DAYS together must have. */
        private long reckonCrops(Land land) {
            Arrays.fill(cropOfTurn, 0);
            long wanted = 0;
            for (int row = 0; row < EIGHT; row++) {
                if (known[row] != NONE) {
                    wanted |= (long) known[row] << (4 * row);
                    for (int turn = 0; turn < EIGHT; turn++) {
                        if (land.things[(row + turn) & LAST] == FIELD) {
                            cropOfTurn[turn] |= 1L << (4 * row);
                        }
                    }
                }
            }
            return wanted;
        }

        private void extend(int day, int gale) {
            int turn = (turns[day] + gale) & LAST;
            bits[day + 1] = bits[day] | gale << day;
            turns[day + 1] = turn;
            crops[day + 1] = crops[day] + cropOfTurn[turn];
        }

        private void note(int history, int allDays) {
            fitting++;
            first = first == NONE ? history : Math.min(first, history);
            sureWith &= history;
            sureWithout &= allDays ^ history;
        }
    }

    /** A SHEET; its row is used again for each new one, and no item behind its size is ever told. */
    private static final class Sheet {
        boolean lost = true;
        int form = 0;
        int size = 0;
        final int[] items = new int[MOST_ITEMS];

        void renew(int newForm, int n) {
            lost = false;
            form = newForm;
            size = n;
            Arrays.fill(items, 0);
        }

        /** The FINDING of an item treated as of a FORM; 0: none. */
        int findingAt(int asForm, int i) {
            if (lost) {
                return NULL;
            }
            if (form != asForm) {
                return CAST;
            }
            return i >= 0 && i < size ? 0 : INDEX;
        }

        void keep(int i, int v) {
            if (form == BYTES) {
                items[i] = (byte) v;
            } else if (form == SHORTS) {
                items[i] = (short) v;
            } else {
                items[i] = v;
            }
        }

        /** Whether there are n items from i on; told without a sum, which could run over. */
        boolean has(int i, int n) {
            return i >= 0 && n >= 0 && n <= size && i <= size - n;
        }
    }
}
