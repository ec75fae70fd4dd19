import java.math.BigInteger;
import java.util.ArrayList;
import java.util.List;

/** Promises 38 and 39: what is counted, and the digest of all. */
final class CountPromises extends Check {
    // ---- 38

    private static void counts(TurningVillage x, int... want) {
        for (int what = 0; what < want.length; what++) {
            due("count " + what, x.count(what), want[what]);
        }
    }

    @Says("0 GALES, 1 those that COUNT, 2 bytes of THE LAND, 3 BRIDGES, 4 closed PATHS, 5 AS OF, 6 WING")
    static void p38_eachOfThem() {
        TurningVillage x = land("mw......;x1;x3;x4;b0110");
        x.gale(1, 0, 3);
        x.gale(2, 1, 5);
        x.gale(2, 1, 9);
        x.takeBack(0, 9);
        x.set(1, 4);
        x.set(0, 8);
        x.wish(1, 1, 1);
        x.swap(0, 0);
        x.put(3, 0, 0, 0);
        counts(x, 3, 2, 23, 1, 3, 8, 4, 8 - 2, 1);
    }

    @Says("0 GALES, 1 those that COUNT, 2 bytes of THE LAND, 3 BRIDGES, 4 closed PATHS, 5 AS OF, 6 WING")
    static void p38_noneAndTheMost() {
        counts(new TurningVillage(), 0, 0, 0, 0, 0, 999, 0, 8, 0);
        TurningVillage x = land("........;x0;x1;x2;x3;x4;x5;x6;x7;b0110;b0110;b0110;b0110");
        for (int i = 0; i < 60; i++) {
            x.gale(i, 1, 0);
        }
        x.set(0, 0);
        x.set(1, 7);
        counts(x, 60, 60, 56, 4, 8, 0, 7, 8, 0);
    }

    @Says({"0 GALES, 1 those that COUNT", "those COUNT that were told up to then and not taken back up to then"})
    static void p38_takenBackTheyAreStillGales() {
        TurningVillage x = full();
        for (int i = 0; i < 60; i++) {
            x.takeBack(i, 50);
        }
        due("gales", x.count(0), 60);
        due("that count", x.count(1), 0);
        x.set(0, 49);
        due("that counted then", x.count(1), 60);
        x.set(0, 39);
        due("ahead of them", x.count(1), 0);
    }

    @Says({"2 bytes of THE LAND, 3 BRIDGES, 4 closed PATHS",
        "With a FAULT all is nothing, all PATHS are open, there are no BRIDGES."})
    static void p38_withAFault() {
        TurningVillage x = land("........;x0;b0110;");
        counts(x, 0, 0, 18, 0, 0);
    }

    @Says("7 TENANTS that live in the ROW of their own number")
    static void p38_fromEightToNobody() {
        TurningVillage x = land("mwmwmwmw");
        for (int tenant = 0; tenant < 8; tenant++) {
            x.wish(tenant, tenant % 2 == 0 ? 2 : 1, 1);
            due("with " + tenant, x.swap(0, 0), 1 - tenant % 2);
            due("in their own rows", x.count(7), 6 - tenant / 2 * 2);
        }
    }

    @Says({"8 the number of the latest FINDING (0 before any)",
        "(answers -10 less the number; they change nothing but count() 8)"})
    static void p38_theLatestFinding() {
        TurningVillage x = new TurningVillage();
        due("before any", x.count(8), 0);
        due("null", x.lose(0), -11);
        due("null", x.count(8), 1);
        x.sheet(0, 0, 2);
        x.sheet(1, 1, 2);
        due("index", x.put(0, 0, 2, 0), -12);
        due("index", x.count(8), 2);
        due("cast", x.put(0, 1, 0, 0), -13);
        due("cast", x.count(8), 3);
        due("store", x.copy(0, 0, 1, 0, 1), -14);
        due("store", x.count(8), 4);
        due("size", x.sheet(0, 0, -1), -15);
        due("size", x.count(8), 5);
        due("null again", x.lose(3), -11);
        due("null again", x.count(8), 1);
    }

    @Says("8 the number of the latest FINDING (0 before any)")
    static void p38_otherRefusalsAndGoodCallsAreNoFindings() {
        TurningVillage x = new TurningVillage();
        x.put(0, 1, 0, 0);
        due("bad", x.type(256), BAD);
        due("bad of set", x.set(3, 0), -5);
        due("bad of get", x.get(4, 0, 0), LEAST);
        due("bad of share", x.share(8, 0, 0, 0, 0), BAD_LONG);
        x.reaped(0, 1);
        due("not", x.history(0, 1, 2), NOT);
        due("a good one", x.sheet(0, 0, 1), 1);
        due("a good one", x.get(0, 0, 0), 0);
        due("still null", x.count(8), 1);
        due("asked again", x.count(8), 1);
    }

    @Says("8 the number of the latest FINDING (0 before any). BAD.")
    static void p38_bad() {
        bounds((x, a) -> x.count(a[0]), BAD, new int[] {3}, new int[] {0, 8});
    }

    // ---- 39

    private static void add(List<Long> told, long... more) {
        for (long v : more) {
            told.add(v);
        }
    }

    /** What is told of a village, by the other calls, as the document lists them. */
    private static List<Long> told(TurningVillage x) {
        List<Long> told = new ArrayList<>();
        add(told, x.count(0), x.count(1), x.count(2), x.count(3), x.count(4), x.count(5), x.count(6), x.count(7));
        add(told, x.fault());
        for (int p = 0; p < 8; p++) {
            add(told, x.place(p, 0), x.place(p, 1), x.place(p, 2));
        }
        add(told, x.turn(0), x.turn(25), x.turn(50), x.turn(75), x.turn(99));
        for (int r = 0; r < 8; r++) {
            add(told, x.door(r, 50, 1), x.door(r, 50, 2), x.shine(r, 0, 99));
            add(told, x.soon(r, 0, 10), x.carried(r, 0, 10), x.waits(r, 0));
        }
        for (int thing = 0; thing < 5; thing++) {
            add(told, x.ahead(thing, 0, 99, 0), x.ahead(thing, 0, 99, 1));
        }
        for (int tenant = 0; tenant < 8; tenant++) {
            add(told, x.lives(tenant), x.best(tenant, 10, 30));
        }
        add(told, x.best(NONE, 10, 30), x.envy(10, 30));
        add(told, x.history(20, 6, 0), x.history(20, 6, 1), x.history(20, 6, 2), x.history(20, 6, 3));
        add(told, x.dig(0, 50), x.meet(0, 4, 10, 0), x.meet(0, 4, 10, 1));
        return told;
    }

    /** The digest as a whole number, however large. */
    private static BigInteger whole(List<Long> told) {
        BigInteger h = BigInteger.valueOf(17);
        for (long v : told) {
            h = h.multiply(BigInteger.valueOf(31)).add(BigInteger.valueOf(v));
        }
        return h;
    }

    private static long byCalls(TurningVillage x) {
        return whole(told(x)).longValue();
    }

    @Says("h is 17; h becomes 31 h and each of (of each thing all that is told of it, then of the next one)")
    static void p39_ofANewObject() {
        List<Long> told = new ArrayList<>();
        add(told, 0, 0, 0, 0, 0, 999, 0, 8, 0);
        for (int place = 0; place < 8; place++) {
            add(told, 0, 1, 0);
        }
        add(told, 0, 0, 0, 0, 0);
        int[] away = {0, 1, 2, 3, 4, 3, 2, 1};
        for (int row = 0; row < 8; row++) {
            add(told, 0, 0, 0, 10 + away[row], 1 + away[row], NONE);
        }
        add(told, 0, 0, 0, 0, 0, 0, 0, 0, 0, 0);
        for (int tenant = 0; tenant < 8; tenant++) {
            add(told, tenant, tenant);
        }
        // ROWS 0 and 4 meet on PLACE 2, on DAY 12.
        add(told, 0, 0, 64, 0, 0, 0, NONE, 12, 2);
        due("digest", new TurningVillage().digest(), whole(told).longValue());
    }

    @Says({"h becomes 31 h and each of (of each thing all that is told of it, then of the next one): count() 0 to 7; "
        + "fault(); of PLACES place() 0 to 2; of DAYS 0, 25, 50, 75, 99 turn(); of ROWS door() on DAY 50, 1 and 2, "
        + "shine(0, 99), soon() and carried() to PLACE 0 from DAY 10, waits() of the PLACE of that number from DAY 0; "
        + "of THINGS ahead(0, 99) 0, 1; of TENANTS lives(), best(10, 30); best(NONE, 10, 30), envy(10, 30), "
        + "history(20, 6, 0 to 3) (as it is told), dig(0, 50), meet(0, 4, 10, 0 and 1); as longs that wrap."})
    static void p39_ofABusyVillage() {
        TurningVillage x = land("fwms.f.w;x3;b0420;b1731");
        gales(x, 1, 9, 10, 11, 12, 19, 20, 24, 25, 26, 29, 30, 31, 49, 50, 51, 74, 75, 76, 98, 99);
        sunsAndWishes(x);
        x.swap(40, 60);
        x.reaped(2, 3);
        due("digest", x.digest(), byCalls(x));
        due("digest of a busy one", busy().digest(), byCalls(busy()));
        x.set(2, 1);
        x.reaped(2, 1);
        due("at another begin", x.digest(), byCalls(x));
    }

    @Says({"history(20, 6, 0 to 3) (as it is told)", "NOT: none fits (2, 3)"})
    static void p39_historyAsItIsTold() {
        TurningVillage x = new TurningVillage();
        x.reaped(0, 12);
        due("none", x.history(20, 6, 1), NONE);
        due("not", x.history(20, 6, 2), NOT);
        due("digest", x.digest(), byCalls(x));
        unlike("another one than without", x.digest(), new TurningVillage().digest());
    }

    @Says("of THINGS ahead(0, 99) 0, 1")
    static void p39_aheadFromTheFirstDayOn() {
        TurningVillage x = windy("m.......", 50);
        due("as many days each, of like ones the least", x.ahead(1, 0, 99, 0), 0);
        due("one day less", x.ahead(1, 1, 99, 0), 7);
        due("digest", x.digest(), byCalls(x));
    }

    @Says("dig(0, 50)")
    static void p39_digUpToFiftyDays() {
        TurningVillage fifty = windy("........", 44, 45, 46, 47, 48, 49, 50);
        due("in 50 days", fifty.dig(0, 50), 0);
        due("digest", fifty.digest(), byCalls(fifty));
        TurningVillage more = windy("........", 45, 46, 47, 48, 49, 50, 51);
        due("in 51 days", more.dig(0, 50), NONE);
        due("digest of more", more.digest(), byCalls(more));
    }

    @Says("count() 0 to 7")
    static void p39_findingsAreNotInIt() {
        TurningVillage x = new TurningVillage();
        long before = x.digest();
        x.lose(0);
        due("finding", x.count(8), 1);
        due("digest", x.digest(), before);
    }

    @Says("h is 17")
    static void p39_askingChangesNothing() {
        TurningVillage x = busy(), twin = busy();
        long first = x.digest();
        due("again", x.digest(), first);
        due("finding", x.count(8), twin.count(8));
        for (int i = 0; i < 8; i++) {
            due("lives", x.lives(i), twin.lives(i));
            due("reaped", x.reaped(i, NONE), twin.reaped(i, NONE));
        }
    }

    @Says("as longs that wrap")
    static void p39_itWraps() {
        TurningVillage x = busy();
        BigInteger whole = whole(told(x));
        due("more bits than a long has", Math.min(whole.bitLength(), 65), 65);
        due("digest", x.digest(), whole.mod(BigInteger.ONE.shiftLeft(64)).longValue());
    }
}
