/** Promises 22 to 27: TENANTS, their WISHES and JOY, SWAP, BEST, ENVY. In a still village ROW r has PLACE r. */
final class TenantPromises extends Check {
    private static final int[] TENANT = {0, 7}, ROW = {0, 7};
    /** Of a span from 10 to 30: from is not more than to. */
    private static final int[] FROM = {0, 30}, TO = {10, 99};

    /** WISHES of one TENANT, each as a THING and how much. */
    private static void wishes(TurningVillage x, int tenant, int... pairs) {
        for (int i = 0; i < pairs.length; i += 2) {
            x.wish(tenant, pairs[i], pairs[i + 1]);
        }
    }

    private static void live(TurningVillage x, int... rows) {
        for (int tenant = 0; tenant < 8; tenant++) {
            due("row of " + tenant, x.lives(tenant), tenant < rows.length ? rows[tenant] : tenant);
        }
    }

    // ---- 22

    @Says({"The WISH of a TENANT for a THING: what it was.", "WISHES (0 to 9; 0 at first) for THINGS 0 to 4"})
    static void p22_whatItWas() {
        TurningVillage x = new TurningVillage();
        for (int tenant = 0; tenant < 8; tenant++) {
            for (int thing = 0; thing < 5; thing++) {
                due("at first", x.wish(tenant, thing, 9), 0);
                due("the most", x.wish(tenant, thing, 0), 9);
                due("the least", x.wish(tenant, thing, (tenant + thing) % 10), 0);
            }
        }
        for (int tenant = 0; tenant < 8; tenant++) {
            for (int thing = 0; thing < 5; thing++) {
                due("each by itself", x.wish(tenant, thing, 0), (tenant + thing) % 10);
            }
        }
    }

    @Says("The WISH of a TENANT for a THING: what it was. BAD.")
    static void p22_bad() {
        bounds((x, a) -> x.wish(a[0], a[1], a[2]), BAD, new int[] {3, 2, 5}, TENANT, new int[] {0, 4},
            new int[] {0, 9});
    }

    // ---- 23

    @Says("The ROW of a TENANT.")
    static void p23_theRow() {
        TurningVillage x = land("m.......");
        live(x);
        x.wish(7, 1, 1);
        due("one change", x.swap(0, 0), 1);
        live(x, 7, 1, 2, 3, 4, 5, 6, 0);
    }

    @Says("The ROW of a TENANT. BAD.")
    static void p23_bad() {
        bounds((x, a) -> x.lives(a[0]), BAD, new int[] {3}, TENANT);
    }

    // ---- 24

    @Says("JOY of a TENANT in a ROW: WISHES for what is at its DOOR, DAY by DAY, together")
    static void p24_dayByDay() {
        TurningVillage x = windy("mw......", 4);
        wishes(x, 7, 1, 3, 2, 5, 0, 1);
        due("by two things", x.joy(7, 0, 0, 9), 4 * 3 + 6 * 5);
        due("by nothing, too", x.joy(7, 1, 0, 9), 4 * 5 + 6);
        due("row 7 round", x.joy(7, 7, 0, 9), 4 + 6 * 3);
        due("of another tenant", x.joy(6, 0, 0, 9), 0);
        due("the most", mostJoy().joy(3, 5, 0, 99), 900);
    }

    private static TurningVillage mostJoy() {
        TurningVillage x = land("ffffffff");
        for (int tenant = 0; tenant < 8; tenant++) {
            x.wish(tenant, 4, 9);
        }
        return x;
    }

    @Says("From a DAY to a DAY: JOY of a TENANT in a ROW")
    static void p24_bothDaysAreOfThem() {
        TurningVillage x = windy("mw......", 4, 8);
        x.wish(0, 2, 5);
        due("the first", x.joy(0, 0, 4, 4), 5);
        due("the last", x.joy(0, 0, 7, 7), 5);
        due("ahead", x.joy(0, 0, 3, 3), 0);
        due("behind", x.joy(0, 0, 8, 8), 0);
        due("all around", x.joy(0, 0, 0, 99), 20);
    }

    @Says("JOY of a TENANT in a ROW")
    static void p24_eachRowAtEachTurn() {
        TurningVillage x = land(".mwsfsw.");
        int[] things = {0, 1, 2, 3, 4, 3, 2, 0};
        wishes(x, 2, 0, 1, 1, 2, 2, 4, 3, 7, 4, 9);
        int[] wishes = {1, 2, 4, 7, 9};
        for (int turn = 0; turn < 8; turn++) {
            x.set(2, turn);
            for (int row = 0; row < 8; row++) {
                due("joy", x.joy(2, row, 5, 6), 2 * wishes[things[(row + turn) % 8]]);
            }
        }
    }

    @Says("JOY. BAD.")
    static void p24_bad() {
        bounds((x, a) -> x.joy(a[0], a[1], a[2], a[3]), BAD, new int[] {3, 5, 10, 30}, TENANT, ROW, FROM, TO);
    }

    // ---- 25

    @Says("change, if neither has less JOY by it and one has more")
    static void p25_likeForBothIsNoChange() {
        TurningVillage x = land("mws.....");
        due("without wishes", x.swap(0, 99), 0);
        for (int tenant = 0; tenant < 8; tenant++) {
            wishes(x, tenant, 0, 4, 1, 4, 2, 4, 3, 4);
        }
        due("all alike", x.swap(0, 99), 0);
        live(x);
    }

    @Says("if neither has less JOY by it and one has more")
    static void p25_likeForOneAndMoreForTheOther() {
        TurningVillage first = land("m.......");
        first.wish(1, 1, 1);
        due("more for b", first.swap(0, 0), 1);
        live(first, 1, 0);
        TurningVillage second = land(".m......");
        second.wish(0, 1, 1);
        due("more for a", second.swap(0, 0), 1);
        live(second, 1, 0);
        TurningVillage both = land("mw......");
        wishes(both, 0, 2, 1);
        wishes(both, 1, 1, 1);
        due("more for both", both.swap(0, 0), 1);
        live(both, 1, 0);
    }

    @Says("if neither has less JOY by it and one has more")
    static void p25_lessForOneIsNoChange() {
        TurningVillage first = land("mmmmmm.w");
        wishes(first, 6, 0, 1);
        wishes(first, 7, 0, 9);
        due("less for a", first.swap(0, 99), 0);
        due("less for a by one", first.swap(0, 0), 0);
        TurningVillage second = land("mmmmmm.w");
        wishes(second, 6, 2, 9);
        wishes(second, 7, 2, 1);
        due("less for b", second.swap(0, 99), 0);
        due("less for b by one", second.swap(0, 0), 0);
        live(first);
        live(second);
    }

    @Says("two TENANTS, a less than b, in order (by a, then b)")
    static void p25_ofLikePairsTheFirstB() {
        TurningVillage x = land(".mm.....");
        x.wish(0, 1, 1);
        due("changes", x.swap(0, 0), 1);
        live(x, 1, 0);
    }

    @Says("two TENANTS, a less than b, in order (by a, then b)")
    static void p25_byAAndOnlyThenByB() {
        // 0 would with 3, 1 with 2; were 1 and 2 the first, 0 would have gone to ROW 1, not to ROW 3.
        TurningVillage x = land("mwsf....");
        wishes(x, 0, 2, 1, 4, 1);
        wishes(x, 1, 2, 1, 3, 2);
        due("changes", x.swap(0, 0), 2);
        live(x, 3, 2, 1, 0);
    }

    @Says("behind each change again from the beginning, until no two would: how many changes (they have changed then)")
    static void p25_againFromTheBeginning() {
        // 1 and 2 change; then 0 and 1 would, and 1 and 3: 0 and 1 come first.
        TurningVillage x = land("mwsf....");
        wishes(x, 0, 3, 1);
        wishes(x, 2, 3, 1, 2, 2);
        wishes(x, 3, 3, 1);
        due("changes", x.swap(0, 0), 2);
        live(x, 2, 0, 1);
        due("no two would", x.swap(0, 0), 0);
        live(x, 2, 0, 1);
    }

    @Says("two TENANTS, a less than b, in order")
    static void p25_everyPair() {
        for (int a = 0; a < 8; a++) {
            for (int b = a + 1; b < 8; b++) {
                // Only a's ROW has a mill, which b alone wishes for; all else is alike to all.
                String signs = "wwwwwwww".substring(0, a) + "m" + "wwwwwwww".substring(a + 1);
                TurningVillage x = land(signs);
                x.wish(b, 1, 9);
                due("changes of " + a + " and " + b, x.swap(0, 99), 1);
                due("row of " + a, x.lives(a), b);
                due("row of " + b, x.lives(b), a);
                due("the others stay", x.count(7), 6);
            }
        }
    }

    @Says("From a DAY to a DAY: JOY of a TENANT in a ROW")
    static void p25_byTheDaysOfThatSpan() {
        TurningVillage x = windy("m.......", 50);
        x.wish(0, 1, 1);
        due("ahead of the gale", x.swap(0, 49), 0);
        due("as many days with as without", x.swap(40, 59), 0);
        due("more days without", x.swap(40, 60), 1);
        live(x, 7, 1, 2, 3, 4, 5, 6, 0);
        due("back", x.swap(49, 49), 1);
        live(x);
        due("on the day of the gale", x.swap(50, 50), 1);
    }

    @Says("SWAP. BAD.")
    static void p25_bad() {
        bounds((x, a) -> x.swap(a[0], a[1]), BAD, new int[] {10, 30}, FROM, TO);
    }

    // ---- 26

    private static void bestOf(TurningVillage x, int joy, int... rows) {
        due("all joy", x.best(NONE, 0, 9), joy);
        for (int tenant = 0; tenant < 8; tenant++) {
            due("best row of " + tenant, x.best(tenant, 0, 9), tenant < rows.length ? rows[tenant] : tenant);
        }
    }

    @Says("of like ones the least row (TENANT 0's ROW first): in which ROW a TENANT lives then")
    static void p26_ofLikeOnesTheLeastRow() {
        bestOf(land("mwsf...."), 0);
        TurningVillage x = land(".m.m....");
        x.wish(2, 1, 1);
        bestOf(x, 10, 0, 1, 3, 2);
        TurningVillage y = land("m.......");
        y.wish(7, 1, 9);
        bestOf(y, 90, 1, 2, 3, 4, 5, 6, 7, 0);
        TurningVillage z = land(".......m");
        z.wish(0, 1, 9);
        bestOf(z, 90, 7, 0, 1, 2, 3, 4, 5, 6);
        bestOf(mostJoy(), 720);
    }

    @Says("the most JOY of all together, by all ways to live")
    static void p26_theMostOfAllTogether() {
        TurningVillage x = land("mw......");
        wishes(x, 0, 1, 5, 2, 4);
        wishes(x, 1, 1, 9);
        bestOf(x, 130, 1, 0);
        // Who has the most by himself does not always get it: 9 and 0 are less than 8 and 7.
        TurningVillage y = land("mw......");
        wishes(y, 0, 1, 9, 2, 8);
        wishes(y, 1, 1, 7);
        bestOf(y, 150, 1, 0);
    }

    @Says("by all ways to live")
    static void p26_notByWhereTheyLiveNow() {
        TurningVillage x = land("m.......");
        x.wish(7, 1, 1);
        x.swap(0, 0);
        x.wish(7, 1, 0);
        due("in order again", x.best(7, 0, 9), 7);
        due("asking moves nobody", x.lives(7), 0);
        x.wish(6, 1, 1);
        due("best row of 6", x.best(6, 0, 9), 0);
        due("asking moves nobody", x.lives(6), 6);
    }

    @Says({"all JOY (tenant = NONE)", "From a DAY to a DAY"})
    static void p26_byTheDaysOfThatSpan() {
        due("of one day", mostJoy().best(NONE, 50, 50), 72);
        due("of all days", mostJoy().best(NONE, 0, 99), 7200);
        TurningVillage x = windy("m.......", 50);
        x.wish(0, 1, 1);
        due("ahead of the gale", x.best(0, 0, 49), 0);
        due("from the gale on", x.best(0, 50, 99), 7);
        due("like many", x.best(0, 40, 59), 0);
        due("more behind it", x.best(0, 40, 60), 7);
        due("joy", x.best(NONE, 40, 60), 11);
    }

    @Says("BEST: the ROW of a TENANT; all JOY (tenant = NONE). BAD.")
    static void p26_bad() {
        bounds((x, a) -> x.best(a[0], a[1], a[2]), BAD, new int[] {3, 10, 30}, new int[] {-1, 7}, FROM, TO);
    }

    // ---- 27

    @Says("how many TENANTS have more JOY in another one's ROW than in their own")
    static void p27_moreThanInTheirOwn() {
        TurningVillage x = land("mw......");
        due("without wishes", x.envy(0, 99), 0);
        x.wish(0, 1, 9);
        due("in the best row", x.envy(0, 9), 0);
        x.wish(1, 1, 9);
        due("in a lesser row", x.envy(0, 9), 1);
        x.wish(1, 2, 9);
        due("in a like row", x.envy(0, 9), 0);
        x.wish(1, 2, 8);
        due("by one", x.envy(0, 0), 1);
    }

    @Says("how many TENANTS have more JOY in another one's ROW than in their own")
    static void p27_eachOfThem() {
        TurningVillage x = land("mmmmmmmw");
        for (int tenant = 0; tenant < 8; tenant++) {
            x.wish(tenant, 2, 1);
            due("many", x.envy(0, 9), Math.min(tenant + 1, 7));
        }
        TurningVillage first = land("wmmmmmmm");
        first.wish(7, 2, 1);
        due("the first row", first.envy(0, 9), 1);
    }

    @Says("than in their own")
    static void p27_byWhereTheyLiveNow() {
        TurningVillage x = land("m.......");
        x.wish(7, 1, 1);
        due("ahead of the change", x.envy(0, 0), 1);
        x.swap(0, 0);
        due("behind it", x.envy(0, 0), 0);
        x.wish(7, 1, 0);
        x.wish(7, 0, 1);
        due("another wish", x.envy(0, 0), 1);
    }

    @Says("From a DAY to a DAY")
    static void p27_byTheDaysOfThatSpan() {
        TurningVillage x = windy("m.......", 50);
        x.wish(0, 1, 1);
        due("ahead of the gale", x.envy(49, 49), 0);
        due("on its day", x.envy(50, 50), 1);
        due("like many", x.envy(40, 59), 0);
        due("more behind it", x.envy(40, 60), 1);
    }

    @Says("ENVY. BAD.")
    static void p27_bad() {
        bounds((x, a) -> x.envy(a[0], a[1]), BAD, new int[] {10, 30}, FROM, TO);
    }
}
