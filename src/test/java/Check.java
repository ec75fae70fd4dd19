import java.util.ArrayList;
import java.util.List;
import java.util.function.Supplier;

/**
 * What the tests of the promises share: answers that are due, villages to ask, refusals that change nothing.
 * They inherit it, since nothing can be imported from a class without a package.
 */
abstract class Check {
    static final int NONE = TurningVillage.NONE, BAD = TurningVillage.BAD;
    static final int NOT = TurningVillage.NOT, FULL = TurningVillage.FULL;
    static final int NULL = -11, INDEX = -12, CAST = -13, STORE = -14, SIZE = -15;
    static final int LEAST = Integer.MIN_VALUE, MOST = Integer.MAX_VALUE;
    static final long BAD_LONG = Long.MIN_VALUE + 2;
    /** The TIME of the latest gale of busy(), and how many it has. */
    static final int BUSY_TIME = 40, BUSY_GALES = 8;

    private static String test = "";
    private static int wrong = 0;

    /** A call with its arguments in a row, so that they can be made wrong one by one. */
    interface Call {
        long on(TurningVillage x, int[] a);
    }

    static void begin(String name) {
        test = name;
    }

    static int wrongAnswers() {
        return wrong;
    }

    static void fail(String what) {
        wrong++;
        System.out.println(test + ": " + what);
    }

    static void due(String what, long got, long want) {
        if (got != want) {
            fail(what + " answered " + got + ", due is " + want);
        }
    }

    static void unlike(String what, long got, long unwanted) {
        if (got == unwanted) {
            fail(what + " answered " + got + ", which is not due");
        }
    }

    // ---- villages

    static void typeAll(TurningVillage x, String text) {
        for (int i = 0; i < text.length(); i++) {
            x.type(text.charAt(i));
        }
    }

    static TurningVillage land(String text) {
        TurningVillage x = new TurningVillage();
        typeAll(x, text);
        return x;
    }

    /** Gales from the west, told at TIME 0. */
    static void gales(TurningVillage x, int... days) {
        for (int day : days) {
            x.gale(day, 0, 0);
        }
    }

    /** A land with a gale from the west on each of these DAYS. */
    static TurningVillage windy(String text, int... days) {
        TurningVillage x = land(text);
        gales(x, days);
        return x;
    }

    static void fill(TurningVillage x, int s, int form, int... items) {
        x.sheet(s, form, items.length);
        for (int i = 0; i < items.length; i++) {
            x.put(s, form, i, items[i]);
        }
    }

    /** SUN of all PLACES, and many unlike WISHES. */
    static void sunsAndWishes(TurningVillage x) {
        for (int i = 0; i < 8; i++) {
            x.sun(i, i + 1);
            for (int thing = 0; thing < 5; thing++) {
                x.wish(i, thing, (3 * i * i + 5 * thing * i + thing) % 10);
            }
        }
    }

    /** A village with something of everything: SHEET 3 is LOST, the latest FINDING is 5. */
    static TurningVillage busy() {
        TurningVillage x = land("mwsf.fwm;x2;x5;b0442;b2610");
        int[][] gales = {{3, 0, 0}, {3, 0, 5}, {10, 1, 10}, {20, 0, 20}, {25, 0, 20}, {30, 1, 30}, {45, 0, 30}};
        for (int[] g : gales) {
            x.gale(g[0], g[1], g[2]);
        }
        x.takeBack(3, 35);
        x.gale(60, 0, BUSY_TIME);
        x.set(0, 37);
        x.set(1, 3);
        x.set(2, 5);
        sunsAndWishes(x);
        x.swap(40, 60);
        x.reaped(2, 3);
        x.reaped(5, 0);
        fill(x, 0, 0, 7, -7, 99, 0, 5);
        fill(x, 1, 1, 300, -300);
        fill(x, 2, 2, 70000, 1, 2);
        x.sheet(3, 0, -1);
        return x;
    }

    /** A village with all 60 gales, told at TIME 40. */
    static TurningVillage full() {
        TurningVillage x = new TurningVillage();
        for (int i = 0; i < 60; i++) {
            x.gale(i, 0, 40);
        }
        return x;
    }

    /** All that can be asked of a village but count() 8; asking so wears the village out. */
    private static List<Long> portrait(TurningVillage x) {
        List<Long> told = new ArrayList<>();
        told.add((long) x.fault());
        for (int what = 0; what < 8; what++) {
            told.add((long) x.count(what));
        }
        for (int place = 0; place < 8; place++) {
            for (int what = 0; what < 3; what++) {
                told.add((long) x.place(place, what));
            }
            told.add((long) x.lives(place));
            told.add((long) x.reaped(place, NONE));
            for (int thing = 0; thing < 5; thing++) {
                told.add((long) x.wish(place, thing, 0));
            }
        }
        for (int day = 0; day < 100; day++) {
            told.add((long) x.turn(day));
        }
        told.add((long) x.bridge(0, 4, 0));
        told.add((long) x.bridge(2, 6, 0));
        askSettings(x, told);
        askSheets(x, told);
        told.add((long) leastTime(x));
        return told;
    }

    private static void askSettings(TurningVillage x, List<Long> told) {
        told.add((long) x.set(1, 1));
        told.add((long) x.set(2, 0));
        for (int time : new int[] {0, 9, 20, 34, 36, 999}) {
            told.add((long) x.set(0, time));
            told.add((long) x.count(1));
            told.add((long) x.turn(99));
        }
    }

    private static void askSheets(TurningVillage x, List<Long> told) {
        for (int s = 0; s < 4; s++) {
            for (int form = 0; form < 3; form++) {
                long item = 0;
                for (int i = 0; i < 61 && item != LEAST; i++) {
                    item = x.get(s, form, i);
                    told.add(item);
                }
            }
            told.add((long) x.lose(s));
        }
    }

    /** The least TIME that a gale may be told at; SHEET 3 must be LOST, as read() tells a bad TIME ahead of that. */
    private static int leastTime(TurningVillage x) {
        int low = 0, high = 1000;
        while (low < high) {
            int middle = (low + high) / 2;
            if (x.read(3, middle) == BAD) {
                low = middle + 1;
            } else {
                high = middle;
            }
        }
        return low;
    }

    // ---- refusals

    private static String told(int[] args) {
        StringBuilder text = new StringBuilder("of (");
        for (int i = 0; i < args.length; i++) {
            text.append(i == 0 ? "" : ", ").append(args[i]);
        }
        return text.append(")").toString();
    }

    /** The call is refused, and all is as in a twin without that call. */
    static void refused(Supplier<TurningVillage> maker, Call call, long want, int... args) {
        found(maker, call, want, 0, args);
    }

    /** Likewise, but for the number of a FINDING, which count() 8 tells then (0: none). */
    static void found(Supplier<TurningVillage> maker, Call call, long want, int finding, int... args) {
        TurningVillage x = maker.get(), twin = maker.get();
        due(told(args), call.on(x, args), want);
        due("count(8) behind the one " + told(args), x.count(8), finding == 0 ? twin.count(8) : finding);
        if (!portrait(x).equals(portrait(twin))) {
            fail("the refused call " + told(args) + " has changed something");
        }
    }

    /**
     * Of a busy village: each argument is taken from its least to its highest number, and refused just
     * outside and far away, while the others are as told.
     */
    static void bounds(Call call, long refusal, int[] good, int[]... ranges) {
        unlike(told(good), call.on(busy(), good), refusal);
        for (int i = 0; i < good.length; i++) {
            int[] args = good.clone();
            for (int v : ranges[i]) {
                args[i] = v;
                unlike(told(args), call.on(busy(), args), refusal);
            }
            int low = ranges[i][0], high = ranges[i][1];
            for (int v : new int[] {low - 1, high + 1, low - 8, high + 8, low - 256, high + 256, LEAST, MOST}) {
                args[i] = v;
                refused(Check::busy, call, refusal, args);
            }
        }
    }
}
