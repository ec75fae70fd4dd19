import java.math.BigInteger;
import java.util.ArrayList;
import java.util.Arrays;
import java.util.List;

/**
 * The document once more, as slowly and as literally as can be: DAY by DAY, all ways to live, all
 * histories one by one. It shares no code and no short cut with the class that it is held against.
 */
final class PlainVillage {
    private static final long LEAST = Long.MIN_VALUE;

    private record Gale(int day, int from, int told) { }

    private record Bridge(int a, int b, int modulo, int rest) { }

    private final List<Integer> text = new ArrayList<>();
    private final List<Gale> gales = new ArrayList<>();
    private final List<Integer> takenAt = new ArrayList<>();
    private int latestTime = 0;
    private int asOf = 999, wing = 0, begin = 0;
    private final int[] suns = new int[8];
    private final int[][] wishes = new int[8][5];
    private final List<Integer> homes = new ArrayList<>(List.of(0, 1, 2, 3, 4, 5, 6, 7));
    private final Integer[] reaped = new Integer[8];
    private final Object[] sheets = new Object[4];
    private int finding = 0;

    // what the text says, by a machine that takes a byte at a time
    private int fault;
    private int[] things = new int[8];
    private boolean[] closed = new boolean[8];
    private List<Bridge> bridges = new ArrayList<>();

    PlainVillage() {
        parse();
    }

    private void parse() {
        int[] newThings = new int[8];
        boolean[] newClosed = new boolean[8];
        List<Bridge> newBridges = new ArrayList<>();
        int found = -1;
        String state = "sign";
        int a = 0, b = 0, m = 0;
        for (int i = 0; i < text.size() && found < 0; i++) {
            int c = text.get(i);
            int figure = c >= '0' && c <= '9' ? c - '0' : 99;
            switch (state) {
                case "sign" -> {
                    int thing = ".mwsf".indexOf(c);
                    if (thing < 0) found = i;
                    else { newThings[i] = thing; if (i == 7) state = "end"; }
                }
                case "end" -> { if (c == ';') state = "kind"; else found = i; }
                case "kind" -> {
                    if (c == 'x') state = "path";
                    else if (c == 'b' && newBridges.size() < 4) state = "a";
                    else found = i;
                }
                case "path" -> { if (figure > 7) found = i; else { newClosed[figure] = true; state = "end"; } }
                case "a" -> { if (figure > 7) found = i; else { a = figure; state = "b"; } }
                case "b" -> { if (figure > 7 || figure == a) found = i; else { b = figure; state = "m"; } }
                case "m" -> { if (figure < 1 || figure > 8) found = i; else { m = figure; state = "k"; } }
                default -> {
                    if (figure >= m) found = i;
                    else { newBridges.add(new Bridge(a, b, m, figure)); state = "end"; }
                }
            }
        }
        if (found < 0 && !state.equals("end")) found = text.size();
        fault = found;
        things = found < 0 ? newThings : new int[8];
        closed = found < 0 ? newClosed : new boolean[8];
        bridges = found < 0 ? newBridges : new ArrayList<>();
    }

    private static boolean out(int v, int low, int high) {
        return v < low || v > high;
    }

    private static boolean badSpan(int from, int to) {
        return out(from, 0, 99) || out(to, 0, 99) || to < from;
    }

    int type(int b) {
        if (out(b, 0, 255)) return -2;
        if (text.size() == 60) return -4;
        text.add(b);
        parse();
        return text.size();
    }

    int wipe() {
        int had = text.size();
        text.clear();
        parse();
        return had;
    }

    int fault() {
        return fault;
    }

    int place(int place, int what) {
        if (out(place, 0, 7) || out(what, 0, 2)) return -2;
        return what == 0 ? things[place] : what == 1 ? (closed[place] ? 0 : 1) : suns[place];
    }

    private boolean linkedByBridge(int a, int b, int day) {
        for (Bridge g : bridges) {
            boolean same = g.a == a && g.b == b || g.a == b && g.b == a;
            if (same && turn(day) % g.modulo == g.rest) return true;
        }
        return false;
    }

    int bridge(int a, int b, int day) {
        if (out(a, 0, 7) || out(b, 0, 7) || out(day, 0, 99) || a == b) return -2;
        return linkedByBridge(a, b, day) ? 1 : 0;
    }

    int gale(int day, int from, int time) {
        if (out(day, 0, 99) || out(from, 0, 1) || out(time, 0, 999) || time < latestTime) return -2;
        if (gales.size() == 60) return -4;
        gales.add(new Gale(day, from, time));
        takenAt.add(null);
        latestTime = time;
        return gales.size() - 1;
    }

    int read(int s, int time) {
        if (out(s, 0, 3) || out(time, 0, 999) || time < latestTime) return -2;
        if (sheets[s] == null) return finding(1);
        int took = 0;
        for (int i = 0; i < size(s); i++) {
            if (gale(item(s, i), 0, time) < 0) return took;
            took++;
        }
        return took;
    }

    int takeBack(int gale, int time) {
        if (out(gale, 0, gales.size() - 1) || out(time, 0, 999) || time < latestTime) return -2;
        if (takenAt.get(gale) != null) return -3;
        takenAt.set(gale, time);
        latestTime = time;
        return 1;
    }

    private boolean counts(int i) {
        return gales.get(i).told <= asOf && !(takenAt.get(i) != null && takenAt.get(i) <= asOf);
    }

    int set(int what, int v) {
        int was;
        if (what == 0 && !out(v, 0, 999)) { was = asOf; asOf = v; return was; }
        if (what == 1 && !out(v, 0, 7)) { was = wing; wing = v; return was; }
        if (what == 2 && !out(v, 0, 7)) { was = begin; begin = v; return was; }
        return -5;
    }

    int sun(int place, int v) {
        if (out(place, 0, 7) || out(v, 0, 9)) return -2;
        int was = suns[place];
        suns[place] = v;
        return was;
    }

    int turn(int day) {
        if (out(day, 0, 99)) return -2;
        int sum = begin;
        for (int i = 0; i < gales.size(); i++) {
            if (counts(i) && gales.get(i).day <= day) sum += gales.get(i).from == 0 ? 1 : wing;
        }
        return sum % 8;
    }

    int door(int row, int day, int what) {
        if (out(row, 0, 7) || out(day, 0, 99) || out(what, 0, 2)) return -2;
        int place = (row + turn(day)) % 8;
        return what == 0 ? place : what == 1 ? things[place] : suns[place];
    }

    private static long fraction(BigInteger above, BigInteger below, int what) {
        BigInteger common = above.gcd(below);
        return (what == 0 ? above : below).divide(common).longValueExact();
    }

    private int days(int row, int thing, int from, int to) {
        int n = 0;
        for (int d = from; d <= to; d++) if (door(row, d, 1) == thing) n++;
        return n;
    }

    long share(int row, int thing, int from, int to, int what) {
        if (out(row, 0, 7) || out(thing, 0, 4) || badSpan(from, to) || out(what, 0, 1)) return LEAST + 2;
        return fraction(BigInteger.valueOf(days(row, thing, from, to)), BigInteger.valueOf(to - from + 1), what);
    }

    int shine(int row, int from, int to) {
        if (out(row, 0, 7) || badSpan(from, to)) return -2;
        int sum = 0;
        for (int d = from; d <= to; d++) sum += door(row, d, 2);
        return sum;
    }

    int ahead(int thing, int from, int to, int what) {
        if (out(thing, 0, 4) || badSpan(from, to) || out(what, 0, 1)) return -2;
        int[] n = new int[8];
        for (int r = 0; r < 8; r++) n[r] = days(r, thing, from, to);
        int most = Arrays.stream(n).max().getAsInt(), fewest = Arrays.stream(n).min().getAsInt();
        if (what == 1) return most - fewest;
        int r = 0;
        while (n[r] != most) r++;
        return r;
    }

    private boolean can(int row, int thing, int other, int turn) {
        return things[(row + turn) % 8] == thing && things[((row + 1) % 8 + turn) % 8] == other;
    }

    int next(int row, int thing, int other, int day) {
        if (out(row, 0, 7) || out(thing, 0, 4) || out(other, 0, 4) || out(day, 0, 99)) return -2;
        for (int d = day; d <= 99; d++) if (can(row, thing, other, turn(d))) return d;
        return -1;
    }

    long likely(int row, int thing, int other, int day, int n, int g, int what) {
        if (out(row, 0, 7) || out(thing, 0, 4) || out(other, 0, 4) || out(day, 0, 99)
            || out(n, 0, 12) || out(g, 0, 16) || out(what, 0, 1)) return LEAST + 2;
        BigInteger good = BigInteger.ZERO;
        for (int h = 0; h < 1 << n; h++) {
            BigInteger weight = BigInteger.ONE;
            int turn = turn(day);
            boolean could = false;
            for (int i = 0; i < n; i++) {
                boolean gale = (h >> i & 1) == 1;
                weight = weight.multiply(BigInteger.valueOf(gale ? g : 16 - g));
                if (gale) turn = (turn + 1) % 8;
                could |= can(row, thing, other, turn);
            }
            if (could) good = good.add(weight);
        }
        return fraction(good, BigInteger.valueOf(16).pow(n), what);
    }

    // spots: ROWS 0 to 7, PLACES 10 to 17
    private boolean step(int a, int b, int day) {
        if (a < 8 && b < 8) return (a + 1) % 8 == b || (b + 1) % 8 == a;
        if (a < 8) return (a + turn(day)) % 8 == b - 10;
        if (b < 8) return step(b, a, day);
        int p = a - 10, q = b - 10;
        return (p + 1) % 8 == q && !closed[p] || (q + 1) % 8 == p && !closed[q] || linkedByBridge(p, q, day);
    }

    /** The fewest STEPS to each spot at the end of each DAY; null: cannot be there. */
    private Integer[][] walk(int row, int day) {
        Integer[][] fewest = new Integer[100][18];
        Integer[] now = new Integer[18];
        now[row] = 0;
        for (int d = day; d <= 99; d++) {
            for (int b = 0; b < 18; b++) {
                if (b == 8 || b == 9) continue;
                Integer least = now[b];
                for (int a = 0; a < 18; a++) {
                    if (now[a] == null || a == b || !step(a, b, d)) continue;
                    if (least == null || now[a] + 1 < least) least = now[a] + 1;
                }
                fewest[d][b] = least;
            }
            now = fewest[d];
        }
        return fewest;
    }

    int soon(int row, int place, int day) {
        if (out(row, 0, 7) || out(place, 0, 7) || out(day, 0, 99)) return -2;
        Integer[][] w = walk(row, day);
        for (int d = day; d <= 99; d++) if (w[d][10 + place] != null) return d;
        return -1;
    }

    int carried(int row, int place, int day) {
        if (out(row, 0, 7) || out(place, 0, 7) || out(day, 0, 99)) return -2;
        int d = soon(row, place, day);
        return d < 0 ? -1 : walk(row, day)[d][10 + place];
    }

    int meet(int a, int b, int day, int what) {
        if (out(a, 0, 7) || out(b, 0, 7) || a == b || out(day, 0, 99) || out(what, 0, 1)) return -2;
        Integer[][] v = walk(a, day), w = walk(b, day);
        for (int d = day; d <= 99; d++) {
            for (int p = 0; p < 8; p++) if (v[d][10 + p] != null && w[d][10 + p] != null) return what == 0 ? d : p;
        }
        return -1;
    }

    int wish(int tenant, int thing, int v) {
        if (out(tenant, 0, 7) || out(thing, 0, 4) || out(v, 0, 9)) return -2;
        int was = wishes[tenant][thing];
        wishes[tenant][thing] = v;
        return was;
    }

    int lives(int tenant) {
        return out(tenant, 0, 7) ? -2 : homes.get(tenant);
    }

    int joy(int tenant, int row, int from, int to) {
        if (out(tenant, 0, 7) || out(row, 0, 7) || badSpan(from, to)) return -2;
        int sum = 0;
        for (int d = from; d <= to; d++) sum += wishes[tenant][door(row, d, 1)];
        return sum;
    }

    int swap(int from, int to) {
        if (badSpan(from, to)) return -2;
        int[][] joys = joys(from, to);
        int changes = 0;
        boolean again = true;
        while (again) {
            again = false;
            for (int a = 0; a < 8 && !again; a++) {
                for (int b = a + 1; b < 8 && !again; b++) {
                    int ra = homes.get(a), rb = homes.get(b);
                    if (joys[a][rb] < joys[a][ra] || joys[b][ra] < joys[b][rb]) continue;
                    if (joys[a][rb] > joys[a][ra] || joys[b][ra] > joys[b][rb]) {
                        homes.set(a, rb);
                        homes.set(b, ra);
                        changes++;
                        again = true;
                    }
                }
            }
        }
        return changes;
    }

    private int[][] joys(int from, int to) {
        int[][] joys = new int[8][8];
        for (int t = 0; t < 8; t++) for (int r = 0; r < 8; r++) joys[t][r] = joy(t, r, from, to);
        return joys;
    }

    private int most;
    private int[] bestWay;

    private void allWays(int[][] joys, int[] way, int n, int joy) {
        if (n == 8) {
            if (joy > most) { most = joy; bestWay = way.clone(); }
            return;
        }
        for (int r = 0; r < 8; r++) {
            boolean free = true;
            for (int i = 0; i < n; i++) free &= way[i] != r;
            if (!free) continue;
            way[n] = r;
            allWays(joys, way, n + 1, joy + joys[n][r]);
        }
    }

    int best(int tenant, int from, int to) {
        if (out(tenant, -1, 7) || badSpan(from, to)) return -2;
        most = -1;
        allWays(joys(from, to), new int[8], 0, 0);
        return tenant == -1 ? most : bestWay[tenant];
    }

    int envy(int from, int to) {
        if (badSpan(from, to)) return -2;
        int[][] joys = joys(from, to);
        int n = 0;
        for (int t = 0; t < 8; t++) {
            boolean envies = false;
            for (int o = 0; o < 8; o++) envies |= joys[t][homes.get(o)] > joys[t][homes.get(t)];
            if (envies) n++;
        }
        return n;
    }

    int reaped(int row, int v) {
        if (out(row, 0, 7) || out(v, -1, 12)) return -5;
        int was = reaped[row] == null ? -1 : reaped[row];
        reaped[row] = v == -1 ? null : v;
        return was;
    }

    int history(int day, int n, int what) {
        if (out(day, 0, 99) || out(n, 0, 12) || out(what, 0, 3)) return -2;
        if (n > 0 && day + n - 1 > 99) return -2;
        int start = day == 0 ? begin : turn(day - 1);
        List<Integer> fits = new ArrayList<>();
        for (int h = 0; h < 1 << n; h++) {
            int[] crop = new int[8];
            int turn = start;
            for (int i = 0; i < n; i++) {
                turn += h >> i & 1;
                for (int r = 0; r < 8; r++) if (things[(r + turn) % 8] == 4) crop[r]++;
            }
            boolean fit = true;
            for (int r = 0; r < 8; r++) fit &= reaped[r] == null || reaped[r] == crop[r];
            if (fit) fits.add(h);
        }
        if (what == 0) return fits.size();
        if (what == 1) return fits.isEmpty() ? -1 : fits.get(0);
        if (fits.isEmpty()) return -3;
        int bits = 0;
        for (int i = 0; i < n; i++) {
            boolean all = true;
            for (int h : fits) all &= (h >> i & 1) == (what == 2 ? 1 : 0);
            if (all) bits |= 1 << i;
        }
        return bits;
    }

    int waits(int place, int day) {
        if (out(place, 0, 7) || out(day, 0, 99)) return -2;
        int longest = 0;
        for (int r = 0; r < 8; r++) {
            int wait = -1;
            for (int d = day; d <= 99 && wait < 0; d++) {
                if (door(r, d, 0) == place || door(r, d, 1) == 2) wait = d - day;
            }
            if (wait < 0) return -1;
            longest = Math.max(longest, wait);
        }
        return longest;
    }

    int dig(int day, int most) {
        if (out(day, 0, 99) || out(most, 0, 99)) return -2;
        int best = -1;
        for (int p = 0; p < 8; p++) {
            if (waits(p, day) >= 0 && (best < 0 || waits(p, day) < waits(best, day))) best = p;
        }
        return best >= 0 && waits(best, day) > most ? -1 : best;
    }

    // sheets are true rows of their FORM, so that Java itself says what fits into an item
    private int finding(int number) {
        finding = number;
        return -10 - number;
    }

    private int form(int s) {
        return sheets[s] instanceof byte[] ? 0 : sheets[s] instanceof short[] ? 1 : 2;
    }

    private int size(int s) {
        return java.lang.reflect.Array.getLength(sheets[s]);
    }

    private int item(int s, int i) {
        return java.lang.reflect.Array.getInt(sheets[s], i);
    }

    private void store(int s, int i, int v) {
        if (sheets[s] instanceof byte[] b) b[i] = (byte) v;
        else if (sheets[s] instanceof short[] h) h[i] = (short) v;
        else ((int[]) sheets[s])[i] = v;
    }

    int sheet(int s, int form, int n) {
        if (out(s, 0, 3) || out(form, 0, 2) || n > 60) return -2;
        if (n < 0) return finding(5);
        sheets[s] = form == 0 ? new byte[n] : form == 1 ? new short[n] : new int[n];
        return n;
    }

    int lose(int s) {
        if (out(s, 0, 3)) return -2;
        if (sheets[s] == null) return finding(1);
        int had = size(s);
        sheets[s] = null;
        return had;
    }

    private int itemFinding(int s, int form, int i) {
        if (sheets[s] == null) return 1;
        if (form(s) != form) return 3;
        return out(i, 0, size(s) - 1) ? 2 : 0;
    }

    int put(int s, int form, int i, int v) {
        if (out(s, 0, 3) || out(form, 0, 2)) return -2;
        int f = itemFinding(s, form, i);
        if (f != 0) return finding(f);
        store(s, i, v);
        return 1;
    }

    int get(int s, int form, int i) {
        if (out(s, 0, 3) || out(form, 0, 2)) return Integer.MIN_VALUE;
        int f = itemFinding(s, form, i);
        if (f != 0) {
            finding(f);
            return Integer.MIN_VALUE;
        }
        return item(s, i);
    }

    int copy(int s, int i, int t, int j, int n) {
        if (out(s, 0, 3) || out(t, 0, 3)) return -2;
        if (sheets[s] == null || sheets[t] == null) return finding(1);
        if (form(s) != form(t)) return finding(4);
        if (i < 0 || j < 0 || n < 0 || (long) i + n > size(s) || (long) j + n > size(t)) return finding(2);
        int[] kept = new int[n];
        for (int k = 0; k < n; k++) kept[k] = item(s, i + k);
        for (int k = 0; k < n; k++) store(t, j + k, kept[k]);
        return 1;
    }

    int write(int day, int s) {
        if (out(day, 0, 99) || out(s, 0, 3)) return -2;
        if (sheets[s] == null) return finding(1);
        int n = 0;
        while (n < size(s) && day + n <= 99) {
            store(s, n, turn(day + n));
            n++;
        }
        return n;
    }

    int count(int what) {
        int n = 0;
        switch (what) {
            case 0: return gales.size();
            case 1: for (int i = 0; i < gales.size(); i++) if (counts(i)) n++; return n;
            case 2: return text.size();
            case 3: return bridges.size();
            case 4: for (boolean c : closed) if (c) n++; return n;
            case 5: return asOf;
            case 6: return wing;
            case 7: for (int t = 0; t < 8; t++) if (homes.get(t) == t) n++; return n;
            case 8: return finding;
            default: return -2;
        }
    }

    long digest() {
        List<Integer> told = new ArrayList<>();
        for (int w = 0; w <= 7; w++) told.add(count(w));
        told.add(fault());
        for (int p = 0; p < 8; p++) for (int w = 0; w <= 2; w++) told.add(place(p, w));
        for (int d : new int[] {0, 25, 50, 75, 99}) told.add(turn(d));
        for (int r = 0; r < 8; r++) {
            told.addAll(List.of(door(r, 50, 1), door(r, 50, 2), shine(r, 0, 99)));
            told.addAll(List.of(soon(r, 0, 10), carried(r, 0, 10), waits(r, 0)));
        }
        for (int t = 0; t < 5; t++) for (int w = 0; w < 2; w++) told.add(ahead(t, 0, 99, w));
        for (int t = 0; t < 8; t++) told.addAll(List.of(lives(t), best(t, 10, 30)));
        told.addAll(List.of(best(-1, 10, 30), envy(10, 30)));
        for (int w = 0; w < 4; w++) told.add(history(20, 6, w));
        told.addAll(List.of(dig(0, 50), meet(0, 4, 10, 0), meet(0, 4, 10, 1)));
        long h = 17;
        for (int v : told) h = 31 * h + v;
        return h;
    }
}
