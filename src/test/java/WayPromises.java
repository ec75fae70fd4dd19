/** Promises 19 to 21: WAYS, SOON and CARRIED; MEET. A way's DAY is of promise 19, its STEPS are of promise 20. */
final class WayPromises extends Check {
    private static final String SHUT = "........;x0;x1;x2;x3;x4;x5;x6;x7";
    private static final int[] ROW = {0, 7}, PLACE = {0, 7}, DAY = {0, 99};

    private static void soonOf(TurningVillage x, int row, int place, int day, int want) {
        due("soon from " + row + " to " + place + " on " + day, x.soon(row, place, day), want);
    }

    private static void carriedOf(TurningVillage x, int row, int place, int day, int want) {
        due("carried from " + row + " to " + place + " on " + day, x.carried(row, place, day), want);
    }

    // ---- 19

    @Says({"from a ROW on a DAY (the first STEP is of that DAY)", "from a ROW to the PLACE at its DOOR"})
    static void p19_theFirstStepIsOfThatDay() {
        TurningVillage x = land("........");
        for (int row = 0; row < 8; row++) {
            soonOf(x, row, row, 0, 0);
            soonOf(x, row, row, 57, 57);
            soonOf(x, row, row, 99, 99);
        }
    }

    @Says("the DAY on which one is on a PLACE, at the earliest; NONE: not up to 99")
    static void p19_notUpToTheLastDay() {
        TurningVillage x = land("........");
        for (int far = 0; far <= 4; far++) {
            soonOf(x, 2, 2 + far, 99 - far, 99);
            soonOf(x, 2, 2 + far, 0, far);
            if (far > 0) {
                soonOf(x, 2, 2 + far, 100 - far, NONE);
            }
        }
    }

    @Says("Each DAY, once it has turned, one takes one STEP, or stays")
    static void p19_onceItHasTurned() {
        TurningVillage x = windy("........", 5);
        soonOf(x, 0, 0, 4, 4);
        soonOf(x, 0, 1, 5, 5);
        soonOf(x, 0, 0, 5, 6);
        soonOf(x, 7, 0, 5, 5);
    }

    @Says("from a ROW to the next or the last one round")
    static void p19_fromRowToRowRound() {
        TurningVillage x = land(SHUT);
        for (int row = 0; row < 8; row++) {
            soonOf(x, row, (row + 1) % 8, 0, 1);
            soonOf(x, row, (row + 7) % 8, 0, 1);
            soonOf(x, row, (row + 3) % 8, 0, 3);
            soonOf(x, row, (row + 5) % 8, 0, 3);
            soonOf(x, row, (row + 4) % 8, 0, 4);
        }
    }

    /** The raft turns by four on DAY 1: who is in a ROW then is at the other end of the land. */
    private static TurningVillage turningAway(String land) {
        return windy(land, 1, 1, 1, 1);
    }

    @Says("from a PLACE to the next or the last one round, if that PATH is open")
    static void p19_fromPlaceToPlaceRound() {
        TurningVillage x = turningAway("........");
        for (int row = 0; row < 8; row++) {
            soonOf(x, row, (row + 1) % 8, 0, 1);
            soonOf(x, row, (row + 7) % 8, 0, 1);
        }
    }

    @Says("from a PLACE to the next or the last one round, if that PATH is open")
    static void p19_aClosedPathEitherWay() {
        for (int shut = 0; shut < 8; shut++) {
            TurningVillage x = turningAway("........;x" + shut);
            int next = (shut + 1) % 8;
            // In the raft it is three ROWS away, then.
            soonOf(x, shut, next, 0, 3);
            soonOf(x, next, shut, 0, 3);
            soonOf(x, next, (next + 1) % 8, 0, 1);
            soonOf(x, (next + 1) % 8, next, 0, 1);
            soonOf(x, shut, (shut + 7) % 8, 0, 1);
            soonOf(x, (shut + 7) % 8, shut, 0, 1);
        }
    }

    @Says("from a PLACE to the ROW at whose DOOR it is")
    static void p19_fromAPlaceToARow() {
        // DAY 0: out to PLACE 0; DAY 1, turned by 4: into ROW 4; DAY 2, turned by 3: out to PLACE 7.
        TurningVillage x = windy(SHUT, 1, 1, 1, 1, 2, 2, 2, 2, 2, 2, 2);
        soonOf(x, 0, 7, 0, 2);
    }

    @Says("over a BRIDGE that meets then")
    static void p19_overABridgeThatMeets() {
        TurningVillage x = land("........;b0410");
        soonOf(x, 0, 4, 0, 1);
        soonOf(x, 4, 0, 0, 1);
        soonOf(x, 0, 5, 0, 2);
        soonOf(land("........;b0421"), 0, 4, 0, 4);
        soonOf(land("........;b0110;b1210;b2310;b0410"), 0, 4, 0, 1);
    }

    @Says({"over a BRIDGE that meets then", "once it has turned"})
    static void p19_aBridgeByTheTurnOfThatDay() {
        TurningVillage x = windy("........;b0481", 2, 3);
        soonOf(x, 0, 4, 0, 2);
        soonOf(x, 0, 4, 1, 2);
        soonOf(x, 7, 4, 2, 5);
    }

    @Says("one takes one STEP, or stays")
    static void p19_byStaying() {
        TurningVillage x = windy(SHUT, 1, 1, 1, 1);
        soonOf(x, 0, 4, 0, 1);
    }

    @Says("With a FAULT all is nothing, all PATHS are open, there are no BRIDGES.")
    static void p19_withAFault() {
        soonOf(land(SHUT + ";b0410;"), 0, 4, 0, 4);
    }

    private static final Call SOON = (x, a) -> x.soon(a[0], a[1], a[2]);

    @Says("SOON; NONE. BAD.")
    static void p19_bad() {
        bounds(SOON, BAD, new int[] {3, 5, 50}, ROW, PLACE, DAY);
    }

    // ---- 20

    @Says("CARRIED: the fewest STEPS (stays are none) by which one is there on that DAY.")
    static void p20_oneStepAtLeast() {
        TurningVillage x = land("........");
        for (int row = 0; row < 8; row++) {
            carriedOf(x, row, row, 0, 1);
            carriedOf(x, row, row, 99, 1);
        }
        carriedOf(x, 0, 4, 0, 5);
        carriedOf(x, 0, 7, 0, 2);
    }

    @Says("the fewest STEPS (stays are none)")
    static void p20_staysAreNone() {
        // On DAY 1 by two STEPS, over PLACE 0, too; but one is enough for who stays.
        carriedOf(windy("........", 1), 0, 1, 0, 1);
        // Three stays, carried over a turn, and out.
        carriedOf(windy(SHUT, 3, 3, 3, 3), 0, 4, 0, 1);
    }

    @Says("by which one is there on that DAY")
    static void p20_onThatDayAndNotLater() {
        // On DAY 9 the raft brings ROW 0 there by one STEP; but on DAY 4 one is there by five.
        TurningVillage x = windy("........", 9, 9, 9, 9);
        soonOf(x, 0, 4, 0, 4);
        carriedOf(x, 0, 4, 0, 5);
        carriedOf(x, 0, 4, 9, 1);
    }

    @Says("from a PLACE to the ROW at whose DOOR it is")
    static void p20_outAndInAndOut() {
        carriedOf(windy(SHUT, 1, 1, 1, 1, 2, 2, 2, 2, 2, 2, 2), 0, 7, 0, 3);
    }

    @Says("over a BRIDGE that meets then")
    static void p20_aBridgeIsOneStep() {
        carriedOf(land("........;b0410"), 0, 4, 0, 2);
        carriedOf(windy("........;b0481", 2, 3), 0, 4, 0, 2);
    }

    @Says("CARRIED; NONE. BAD.")
    static void p20_noneIfNotUpToTheLastDay() {
        TurningVillage x = land("........");
        carriedOf(x, 3, 4, 98, 2);
        carriedOf(x, 3, 4, 99, NONE);
        carriedOf(x, 3, 7, 95, 5);
        carriedOf(x, 3, 7, 96, NONE);
    }

    @Says("CARRIED; NONE. BAD.")
    static void p20_bad() {
        bounds((x, a) -> x.carried(a[0], a[1], a[2]), BAD, new int[] {3, 5, 50}, ROW, PLACE, DAY);
    }

    // ---- 21

    private static final Call MEET = (x, a) -> x.meet(a[0], a[1], a[2], a[3]);

    private static void meetOf(TurningVillage x, int a, int b, int day, int wantDay, int wantPlace) {
        String who = a + " and " + b + " from " + day;
        due("day of " + who, x.meet(a, b, day, 0), wantDay);
        due("place of " + who, x.meet(a, b, day, 1), wantPlace);
        due("day of the same, the other way", x.meet(b, a, day, 0), wantDay);
        due("place of the same, the other way", x.meet(b, a, day, 1), wantPlace);
    }

    @Says({"the earliest DAY on which both are on one PLACE, both beginning on a DAY",
        "which PLACE, of like ones the least"})
    static void p21_ofLikePlacesTheLeast() {
        TurningVillage x = land("........");
        meetOf(x, 0, 1, 0, 1, 0);
        meetOf(x, 6, 7, 0, 1, 6);
        meetOf(x, 7, 0, 0, 1, 0);
        meetOf(x, 6, 0, 0, 1, 7);
        meetOf(x, 2, 6, 5, 7, 0);
        meetOf(x, 1, 5, 5, 7, 3);
        meetOf(x, 2, 5, 0, 2, 3);
    }

    @Says("MEET: the DAY (what = 0), the PLACE (1); NONE.")
    static void p21_notUpToTheLastDay() {
        TurningVillage x = land("........");
        meetOf(x, 0, 1, 98, 99, 0);
        meetOf(x, 0, 1, 99, NONE, NONE);
        meetOf(x, 2, 6, 97, 99, 0);
        meetOf(x, 2, 6, 98, NONE, NONE);
        meetOf(x, 2, 6, 99, NONE, NONE);
    }

    @Says("the earliest DAY on which both are on one PLACE")
    static void p21_overABridge() {
        meetOf(land("........;b2610"), 2, 6, 5, 6, 2);
        meetOf(windy("........;b2681", 6), 2, 6, 5, 6, 2);
    }

    @Says("the earliest DAY on which both are on one PLACE")
    static void p21_oneGoesOutEarlier() {
        // All PATHS are shut: ROW 0 goes out to PLACE 0, and a turn of two brings ROW 6 there.
        meetOf(windy(SHUT, 1, 1), 0, 6, 0, 1, 0);
    }

    @Says("BAD: also one ROW with itself.")
    static void p21_oneRowWithItself() {
        for (int row = 0; row < 8; row++) {
            refused(Check::busy, MEET, BAD, row, row, 50, 0);
            refused(Check::busy, MEET, BAD, row, row, 50, 1);
        }
    }

    @Says("MEET: the DAY (what = 0), the PLACE (1); NONE. BAD")
    static void p21_bad() {
        bounds(MEET, BAD, new int[] {3, 5, 50, 0}, ROW, ROW, DAY, new int[] {0, 1});
    }
}
