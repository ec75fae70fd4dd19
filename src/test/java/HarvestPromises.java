/** Promises 28 to 31: what ROWS REAPED, HISTORIES, WAITS for a WELL, where to DIG one. */
final class HarvestPromises extends Check {
    private static final Call HISTORY = (x, a) -> x.history(a[0], a[1], a[2]);

    private static TurningVillage reaping(String land, int row, int days) {
        TurningVillage x = land(land);
        x.reaped(row, days);
        return x;
    }

    private static void historyOf(TurningVillage x, int day, int n, int... want) {
        for (int what = 0; what < 4; what++) {
            due("history of " + n + " days from " + day + ", " + what, x.history(day, n, what), want[what]);
        }
    }

    // ---- 28

    @Says("What a ROW REAPED (NONE: not known): what it was.")
    static void p28_whatItWas() {
        for (int row = 0; row < 8; row++) {
            TurningVillage x = new TurningVillage();
            due("at first", x.reaped(row, 12), NONE);
            due("the most", x.reaped(row, 0), 12);
            due("the least", x.reaped(row, NONE), 0);
            due("not known", x.reaped(row, 7), NONE);
            for (int other = 0; other < 8; other++) {
                due("each by itself", x.reaped(other, NONE), other == row ? 7 : NONE);
            }
        }
    }

    @Says({"BAD: -5.", "(0 to 12; NONE: not known, at first)"})
    static void p28_bad() {
        bounds((x, a) -> x.reaped(a[0], a[1]), -5, new int[] {3, 5}, new int[] {0, 7}, new int[] {-1, 12});
    }

    // ---- 29

    @Says({"how many of these rows of DAYS fit; the first (as bits, DAY 0 of these the lowest; by numbers; NONE)",
        "SURE: DAYS (bits) that had one in all that fit, and those that had none in all",
        "how many (what = 0), the first (1; NONE), SURE ones with (2), without (3)"})
    static void p29_firstAndSureOnes() {
        // ROW 0 has the field till a gale: one on the second DAY, whatever the third had.
        historyOf(reaping("f.......", 0, 1), 0, 3, 2, 2, 2, 1);
        // ROW 7 has the field behind the first gale, till the second: one DAY of two.
        historyOf(reaping("f.......", 7, 1), 0, 2, 2, 2, 2, 0);
        // ROW 6 has it behind the second gale: that was on the third DAY, or on the second and a third one behind it.
        historyOf(reaping("f.......", 6, 1), 0, 3, 3, 5, 4, 0);
        historyOf(reaping("f.......", 6, 2), 0, 3, 1, 3, 3, 4);
    }

    @Says({"the first (as bits, DAY 0 of these the lowest; by numbers; NONE)",
        "SURE: DAYS (bits) that had one in all that fit, and those that had none in all"})
    static void p29_nothingIsSure() {
        // ROW 7 has the field at TURN 1, on two of three DAYS: gales on the second one, or on the first and the third.
        historyOf(reaping("f.......", 7, 2), 0, 3, 2, 2, 0, 0);
        // On one: gales on the first two, on the third, on the last two, or on all.
        historyOf(reaping("f.......", 7, 1), 0, 3, 4, 3, 0, 0);
    }

    @Says("all that is known of ROWS")
    static void p29_allThatIsKnown() {
        TurningVillage x = reaping("f.......", 0, 1);
        historyOf(x, 0, 3, 2, 2, 2, 1);
        x.reaped(7, 2);
        historyOf(x, 0, 3, 1, 2, 2, 5);
        x.reaped(7, 1);
        historyOf(x, 0, 3, 1, 6, 6, 1);
        x.reaped(6, 1);
        historyOf(x, 0, 3, 1, 6, 6, 1);
        x.reaped(6, 0);
        historyOf(x, 0, 3, 0, NONE, NOT, NOT);
        x.reaped(0, NONE);
        x.reaped(7, NONE);
        x.reaped(6, NONE);
        historyOf(x, 0, 3, 8, 0, 0, 0);
    }

    @Says("NOT: none fits (2, 3).")
    static void p29_noneFits() {
        TurningVillage x = reaping("f.......", 0, 4);
        historyOf(x, 10, 3, 0, NONE, NOT, NOT);
        historyOf(x, 10, 4, 1, 0, 0, 15);
    }

    @Says({"BAD; NOT: none fits (2, 3).", "Refusals, the first that fits, in the order told at each act"})
    static void p29_badAheadOfNot() {
        TurningVillage x = reaping("........", 0, 1);
        due("not", x.history(50, 3, 2), NOT);
        due("day", x.history(100, 0, 2), BAD);
        due("days", x.history(50, 13, 2), BAD);
        due("behind the last day", x.history(98, 3, 3), BAD);
    }

    @Says("HISTORIES of n DAYS (0 to 12)")
    static void p29_ofNoDays() {
        TurningVillage x = land("ffffffff");
        historyOf(x, 0, 0, 1, 0, 0, 0);
        historyOf(x, 99, 0, 1, 0, 0, 0);
        x.reaped(7, 0);
        historyOf(x, 50, 0, 1, 0, 0, 0);
        x.reaped(7, 1);
        historyOf(x, 50, 0, 0, NONE, NOT, NOT);
    }

    @Says("of DAYS from a DAY on, 12 at most")
    static void p29_ofTwelveDays() {
        TurningVillage all = land("ffffffff");
        for (int row = 0; row < 8; row++) {
            all.reaped(row, 12);
        }
        historyOf(all, 0, 12, 4096, 0, 0, 0);
        historyOf(all, 0, 11, 0, NONE, NOT, NOT);
        historyOf(reaping("f.......", 0, 12), 88, 12, 1, 0, 0, 4095);
        historyOf(reaping("f.......", 0, 11), 88, 12, 1, 2048, 2048, 2047);
        // TURNS 0, 5, 6 and 7 on one DAY each, 1 to 4 on two: once 0 1 1 2 2 3 3 4 4 5 6 7; else it is round at 0
        // behind 7, and goes on to 0, 1, 2, 3 or 4, the last by a gale each DAY.
        TurningVillage round = reaping("f.......", 0, 1);
        for (int row = 1; row < 4; row++) {
            round.reaped(row, 1);
        }
        for (int row = 4; row < 8; row++) {
            round.reaped(row, 2);
        }
        historyOf(round, 0, 12, 6, 3754, 3584, 0);
    }

    @Says("from a DAY on (all of 0 to 99)")
    static void p29_allOfThemUpToTheLastDay() {
        for (int n = 1; n <= 12; n++) {
            TurningVillage x = new TurningVillage();
            due("up to day 99", x.history(100 - n, n, 0), 1 << n);
            due("beyond it by one", x.history(101 - n, n, 0), BAD);
        }
        refused(Check::busy, HISTORY, BAD, 99, 2, 0);
        refused(Check::busy, HISTORY, BAD, 89, 12, 3);
    }

    @Says("GALES of these DAYS are forgotten; the TURN ahead of them is that of the DAY ahead")
    static void p29_theTurnOfTheDayAhead() {
        TurningVillage x = reaping("f.......", 7, 3);
        gales(x, 10, 11, 12, 13);
        historyOf(x, 11, 3, 1, 0, 0, 7);
        historyOf(x, 10, 3, 1, 1, 1, 6);
        historyOf(x, 12, 3, 0, NONE, NOT, NOT);
        x.takeBack(0, 0);
        historyOf(x, 11, 3, 1, 1, 1, 6);
    }

    @Says("(of DAY 0: BEGIN)")
    static void p29_ofTheFirstDayBegin() {
        TurningVillage x = reaping("f.......", 1, 3);
        x.set(2, 7);
        historyOf(x, 0, 3, 1, 0, 0, 7);
        x.gale(0, 0, 0);
        historyOf(x, 0, 3, 1, 0, 0, 7);
        historyOf(x, 1, 3, 0, NONE, NOT, NOT);
    }

    @Says("Each DAY had a GALE from the west, or none")
    static void p29_neverFromTheNorth() {
        TurningVillage x = reaping("f.......", 4, 1);
        x.set(1, 4);
        x.gale(20, 1, 0);
        historyOf(x, 20, 1, 0, NONE, NOT, NOT);
        historyOf(x, 21, 1, 1, 0, 0, 1);
    }

    @Says("HISTORIES: how many of these rows of DAYS fit")
    static void p29_eachRowAtEachTurn() {
        for (int row = 0; row < 8; row++) {
            TurningVillage x = reaping("f.......", row, 1);
            for (int turn = 0; turn < 8; turn++) {
                x.set(2, turn);
                int at = (row + turn) % 8;
                int[] want = at == 0 ? new int[] {1, 0, 0, 1} : at == 7 ? new int[] {1, 1, 1, 0}
                    : new int[] {0, NONE, NOT, NOT};
                historyOf(x, 40, 1, want);
            }
        }
    }

    @Says("on how many of these DAYS a FIELD was at its DOOR")
    static void p29_onlyFieldsAreReaped() {
        for (char sign : ".mws".toCharArray()) {
            String land = "ffffffff".replace('f', sign);
            historyOf(reaping(land, 3, 0), 40, 2, 4, 0, 0, 0);
            historyOf(reaping(land, 3, 1), 40, 2, 0, NONE, NOT, NOT);
        }
    }

    @Says("BAD; NOT: none fits (2, 3).")
    static void p29_bad() {
        bounds(HISTORY, BAD, new int[] {20, 6, 0}, new int[] {0, 94}, new int[] {0, 12}, new int[] {0, 3});
        bounds(HISTORY, BAD, new int[] {95, 5, 3}, new int[] {0, 95}, new int[] {0, 5}, new int[] {0, 3});
        bounds(HISTORY, BAD, new int[] {99, 0, 2}, new int[] {0, 99}, new int[] {0, 1}, new int[] {0, 3});
    }

    // ---- 30

    /** A turn each ten DAYS: each TURN once, up to the seventh. */
    private static TurningVillage slow(String land) {
        return windy(land, 10, 20, 30, 40, 50, 60, 70);
    }

    private static void waitsOf(TurningVillage x, int day, int... want) {
        for (int place = 0; place < 8; place++) {
            due("wait at " + place + " from " + day, x.waits(place, day), want[place]);
        }
    }

    @Says("(0: at once; NONE: never for some ROW)")
    static void p30_atOnce() {
        waitsOf(land("wwwwwwww"), 0, 0, 0, 0, 0, 0, 0, 0, 0);
        waitsOf(land("wwwwwwww"), 99, 0, 0, 0, 0, 0, 0, 0, 0);
        waitsOf(land("wwwwwww."), 50, NONE, NONE, NONE, NONE, NONE, NONE, NONE, 0);
    }

    @Says("NONE: never for some ROW")
    static void p30_never() {
        waitsOf(land("........"), 0, NONE, NONE, NONE, NONE, NONE, NONE, NONE, NONE);
        // Without TURN 7 one ROW never has a certain PLACE.
        waitsOf(windy("........", 1, 2, 3, 4, 5, 6), 0, NONE, NONE, NONE, NONE, NONE, NONE, NONE, NONE);
    }

    @Says("the most DAYS of any ROW until this PLACE (or one with a WELL) is at its DOOR")
    static void p30_thePlaceOrAWell() {
        waitsOf(slow("........"), 0, 70, 70, 70, 70, 70, 70, 70, 70);
        waitsOf(slow("w......."), 0, 70, 60, 50, 40, 30, 40, 50, 60);
        waitsOf(slow("w...w..."), 0, 30, 30, 30, 30, 30, 30, 30, 30);
        waitsOf(slow("w.w.w.w."), 0, 10, 10, 10, 10, 10, 10, 10, 10);
    }

    @Says({"before ROW r lies PLACE (r and TURN) modulo 8", "NONE: never for some ROW"})
    static void p30_whichRowsComeToIt() {
        // TURNS 0, 1 and 3: with a well at 4 ROWS 0, 1, 2 and 4 have one at once, then 7 and 3, then 5 and 6.
        waitsOf(windy("www.....", 10, 20, 20), 0, NONE, NONE, NONE, NONE, 20, NONE, NONE, NONE);
    }

    @Says("from a DAY on, up to 99")
    static void p30_fromADayOn() {
        TurningVillage x = slow("........");
        due("from day 9", x.waits(0, 9), 61);
        due("from day 10: one ROW had it before", x.waits(0, 10), NONE);
        TurningVillage wells = slow("w...w...");
        due("from day 40", wells.waits(0, 40), 30);
        due("from day 49", wells.waits(0, 49), 21);
        due("from day 50", wells.waits(0, 50), NONE);
        due("the last turns", wells.waits(0, 41), 29);
    }

    @Says("from a DAY on, up to 99")
    static void p30_upToTheLastDay() {
        TurningVillage x = windy("wwwwwww.", 99);
        waitsOf(x, 0, 99, 99, 99, 99, 99, 99, 99, 0);
        waitsOf(x, 98, 1, 1, 1, 1, 1, 1, 1, 0);
        // On DAY 99 ROW 6 has the PLACE without a well.
        waitsOf(x, 99, NONE, NONE, NONE, NONE, NONE, NONE, NONE, 0);
    }

    @Says("until this PLACE (or one with a WELL) is at its DOOR")
    static void p30_onlyWellsAreWells() {
        for (char sign : ".msf".toCharArray()) {
            due("of " + sign, land("ffffffff".replace('f', sign)).waits(0, 0), NONE);
        }
    }

    @Says("WAIT; NONE. BAD.")
    static void p30_bad() {
        bounds((x, a) -> x.waits(a[0], a[1]), BAD, new int[] {3, 50}, new int[] {0, 7}, new int[] {0, 99});
    }

    // ---- 31

    @Says("DIG: the PLACE with the least WAIT, of like ones the first")
    static void p31_ofLikeOnesTheFirst() {
        due("all alike", slow("........").dig(0, 99), 0);
        due("all at once", land("wwwwwwww").dig(0, 99), 0);
        due("two wells", slow("w...w...").dig(0, 99), 0);
    }

    @Says("DIG: the PLACE with the least WAIT")
    static void p31_theLeastWait() {
        for (int well = 0; well < 8; well++) {
            String land = "........".substring(0, well) + "w" + "........".substring(well + 1);
            due("over against " + well, slow(land).dig(0, 99), (well + 4) % 8);
            String but = land.replace('w', 'x').replace('.', 'w').replace('x', '.');
            due("the one without " + well, land(but).dig(50, 0), well);
        }
    }

    @Says("or that is more than told (0 to 99)")
    static void p31_moreThanTold() {
        TurningVillage x = slow("w.......");
        due("as told", x.dig(0, 30), 4);
        due("more than told", x.dig(0, 29), NONE);
        due("at once", land("wwwwwwww").dig(99, 0), 0);
        // ROWS 6 and 7 have a well on DAY 99: digging helps one of them.
        TurningVillage late = windy("wwwwww..", 99, 99);
        due("the most", late.dig(0, 99), 0);
        due("more than told by one", late.dig(0, 98), NONE);
        due("from day 1 on", late.dig(1, 98), 0);
    }

    @Says("NONE, if with none all get there")
    static void p31_withNoneAllGetThere() {
        due("no turn", land("w.......").dig(0, 99), NONE);
        due("too late", slow("........").dig(10, 99), NONE);
        due("in time", slow("........").dig(9, 99), 0);
    }

    @Says("DIG: the PLACE with the least WAIT")
    static void p31_nothingIsDug() {
        TurningVillage x = slow("w.......");
        due("where", x.dig(0, 99), 4);
        due("no well there", x.place(4, 0), 0);
        due("the same again", x.dig(0, 99), 4);
    }

    @Says("DIG; NONE. BAD.")
    static void p31_bad() {
        bounds((x, a) -> x.dig(a[0], a[1]), BAD, new int[] {50, 50}, new int[] {0, 99}, new int[] {0, 99});
    }
}
