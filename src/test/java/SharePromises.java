/** Promises 14 to 18: SHARES, SUN of ROWS, AHEAD, WORKS that come next, how likely they are. */
final class SharePromises extends Check {
    private static final int[] ROW = {0, 7}, THING = {0, 4}, DAY = {0, 99}, WHAT = {0, 1};
    /** Of a span from 10 to 30: from is not more than to. */
    private static final int[] FROM = {0, 30}, TO = {10, 99};

    // ---- 14

    private static void shareOf(TurningVillage x, int row, int from, int to, long above, long below) {
        String what = "share of row " + row + " from " + from + " to " + to;
        due(what + ", above", x.share(row, 1, from, to, 0), above);
        due(what + ", below", x.share(row, 1, from, to, 1), below);
    }

    @Says("FRACTIONS are told in lowest terms, above and below (0 by 1).")
    static void p14_inLowestTerms() {
        TurningVillage x = windy("m.......", 6, 9);
        shareOf(x, 0, 0, 9, 3, 5);
        shareOf(x, 7, 0, 9, 3, 10);
        shareOf(x, 7, 0, 8, 1, 3);
        shareOf(x, 0, 2, 9, 1, 2);
        shareOf(x, 6, 0, 99, 91, 100);
    }

    @Says("above and below (0 by 1)")
    static void p14_noneIsNothingByOne() {
        TurningVillage x = land("m.......");
        shareOf(x, 1, 0, 9, 0, 1);
        shareOf(x, 1, 0, 99, 0, 1);
        shareOf(x, 1, 50, 50, 0, 1);
    }

    @Says("on how many of these DAYS it is at its DOOR, by all; a FRACTION")
    static void p14_allIsOneByOne() {
        TurningVillage x = land("m.......");
        shareOf(x, 0, 0, 99, 1, 1);
        shareOf(x, 0, 0, 5, 1, 1);
    }

    @Says("From a DAY to a DAY (not less)")
    static void p14_bothDaysAreOfThem() {
        TurningVillage x = windy("m.......", 6, 9);
        shareOf(x, 7, 6, 6, 1, 1);
        shareOf(x, 7, 8, 8, 1, 1);
        shareOf(x, 7, 5, 6, 1, 2);
        shareOf(x, 7, 8, 9, 1, 2);
        shareOf(x, 7, 5, 5, 0, 1);
        shareOf(x, 7, 9, 9, 0, 1);
        shareOf(x, 0, 0, 0, 1, 1);
        shareOf(x, 6, 99, 99, 1, 1);
    }

    @Says("SHARE of a ROW in a THING")
    static void p14_eachThingAtEachTurn() {
        TurningVillage x = land(".mwsfsw.");
        int[] things = {0, 1, 2, 3, 4, 3, 2, 0};
        for (int turn = 0; turn < 8; turn++) {
            x.set(2, turn);
            for (int row = 0; row < 8; row++) {
                for (int thing = 0; thing < 5; thing++) {
                    due("share", x.share(row, thing, 3, 8, 0), things[(row + turn) % 8] == thing ? 1 : 0);
                }
            }
        }
    }

    @Says({"SHARE: above, below. BAD. (A refusal -x is the least long and x more.)",
        "Where the answer is a long, a refusal -x is the least long and x more."})
    static void p14_bad() {
        bounds((x, a) -> x.share(a[0], a[1], a[2], a[3], a[4]), BAD_LONG, new int[] {3, 1, 10, 30, 0},
            ROW, THING, FROM, TO, WHAT);
    }

    // ---- 15

    @Says("its SUN: that of PLACES at its DOOR, together")
    static void p15_dayByDay() {
        TurningVillage x = windy("", 6, 9);
        x.sun(0, 2);
        x.sun(1, 5);
        x.sun(2, 9);
        due("by three places", x.shine(0, 0, 99), 6 * 2 + 3 * 5 + 91 * 9);
        due("row 7 round", x.shine(7, 0, 99), 3 * 2 + 91 * 5);
        due("without sun", x.shine(3, 0, 99), 0);
    }

    @Says("From a DAY to a DAY (not less)")
    static void p15_bothDaysAreOfThem() {
        TurningVillage x = windy("", 6, 9);
        x.sun(1, 5);
        due("the first", x.shine(0, 6, 6), 5);
        due("the last", x.shine(0, 8, 8), 5);
        due("ahead", x.shine(0, 5, 5), 0);
        due("behind", x.shine(0, 9, 9), 0);
        due("all around", x.shine(0, 5, 9), 15);
    }

    @Says("its SUN: that of PLACES at its DOOR, together")
    static void p15_eachRowAtEachTurn() {
        TurningVillage x = new TurningVillage();
        for (int place = 0; place < 8; place++) {
            x.sun(place, place + 2);
        }
        for (int turn = 0; turn < 8; turn++) {
            x.set(2, turn);
            for (int row = 0; row < 8; row++) {
                due("shine", x.shine(row, 0, 99), 100 * ((row + turn) % 8 + 2));
            }
        }
    }

    @Says("SUN of a ROW. BAD.")
    static void p15_bad() {
        bounds((x, a) -> x.shine(a[0], a[1], a[2]), BAD, new int[] {3, 10, 30}, ROW, FROM, TO);
    }

    // ---- 16

    private static void aheadOf(TurningVillage x, int thing, int from, int to, int row, int more) {
        String what = "of thing " + thing + " from " + from + " to " + to;
        due("ahead " + what, x.ahead(thing, from, to, 0), row);
        due("by how many " + what, x.ahead(thing, from, to, 1), more);
    }

    @Says("the ROW with the most DAYS of a THING, of like ones the least")
    static void p16_ofLikeOnesTheLeast() {
        TurningVillage x = windy("m...m...", 6, 9);
        aheadOf(x, 1, 0, 8, 0, 6);
        aheadOf(x, 1, 6, 8, 3, 3);
        aheadOf(x, 1, 6, 99, 2, 91);
        aheadOf(x, 0, 0, 8, 1, 6);
        aheadOf(land("mmmmmmmm"), 1, 0, 99, 0, 0);
    }

    @Says("the ROW with the most DAYS of a THING")
    static void p16_noneHasIt() {
        aheadOf(windy("m...m...", 6, 9), 4, 0, 99, 0, 0);
    }

    @Says("by how many more than the one with the fewest")
    static void p16_moreThanTheFewest() {
        // On ten DAYS ROW 0 has 10, ROW 1 has 4, ROW 7 has 6, the others have none.
        TurningVillage x = windy("mm......", 4);
        aheadOf(x, 1, 0, 9, 0, 10);
        aheadOf(x, 0, 0, 9, 2, 10);
        aheadOf(land(".mmmmmmm"), 1, 0, 9, 1, 10);
        aheadOf(land("mmmmmmm."), 1, 0, 9, 0, 10);
        // On seven DAYS ROW 7 has 1, ROW 6 has 6, the others have 7.
        aheadOf(windy("mmmmmmm.", 6), 1, 0, 6, 0, 6);
    }

    @Says("the ROW with the most DAYS of a THING")
    static void p16_eachRowAtEachTurn() {
        for (int place = 0; place < 8; place++) {
            TurningVillage x = land("........".substring(0, place) + "f" + "........".substring(place + 1));
            for (int turn = 0; turn < 8; turn++) {
                x.set(2, turn);
                aheadOf(x, 4, 50, 50, (place - turn + 8) % 8, 1);
            }
        }
    }

    @Says("AHEAD: the ROW (what = 0), by how many (1). BAD.")
    static void p16_bad() {
        bounds((x, a) -> x.ahead(a[0], a[1], a[2], a[3]), BAD, new int[] {1, 10, 30, 0}, THING, FROM, TO, WHAT);
    }

    // ---- 17

    @Says("if a THING is at its DOOR and another one at that of the next ROW (7: 0)")
    static void p17_theNextRowRound() {
        TurningVillage x = land("w.....sm");
        due("rows 7 and 0", x.next(7, 1, 2, 0), 0);
        due("rows 6 and 7", x.next(6, 3, 1, 0), 0);
        due("not the row ahead", x.next(0, 2, 1, 0), NONE);
        due("not the other way", x.next(7, 2, 1, 0), NONE);
        due("one thing twice", x.next(1, 0, 0, 0), 0);
        due("only the first of both", x.next(0, 2, 2, 0), NONE);
        due("only the second of both", x.next(7, 2, 2, 0), NONE);
    }

    @Says("NEXT: the first such DAY from a DAY on (to 99); NONE.")
    static void p17_fromThatDayOn() {
        TurningVillage x = windy("mw......", 10, 20, 30, 40, 50, 60, 70, 80);
        due("on that day", x.next(0, 1, 2, 3), 3);
        due("on the last day of it", x.next(0, 1, 2, 9), 9);
        due("when it comes back", x.next(0, 1, 2, 10), 80);
        due("not an earlier day", x.next(7, 1, 2, 20), NONE);
        due("its last day", x.next(7, 1, 2, 19), 19);
        due("its first day", x.next(7, 1, 2, 0), 10);
    }

    @Says("from a DAY on (to 99); NONE")
    static void p17_upToTheLastDay() {
        TurningVillage x = windy("mw......", 99);
        due("on day 99", x.next(7, 1, 2, 0), 99);
        due("from day 99 on", x.next(7, 1, 2, 99), 99);
        due("gone on day 99", x.next(0, 1, 2, 99), NONE);
        due("never", x.next(6, 1, 2, 0), NONE);
        due("with day 98", x.next(0, 1, 2, 98), 98);
    }

    @Says("a ROW can, on a DAY, if a THING is at its DOOR")
    static void p17_eachRowAtEachTurn() {
        TurningVillage x = land("mw......");
        for (int turn = 0; turn < 8; turn++) {
            x.set(2, turn);
            for (int row = 0; row < 8; row++) {
                due("row " + row + " at " + turn, x.next(row, 1, 2, 5), (row + turn) % 8 == 0 ? 5 : NONE);
            }
        }
    }

    @Says("NEXT; NONE. BAD.")
    static void p17_bad() {
        bounds((x, a) -> x.next(a[0], a[1], a[2], a[3]), BAD, new int[] {3, 1, 2, 50}, ROW, THING, THING, DAY);
    }

    // ---- 18

    private static void likelyOf(TurningVillage x, int row, int n, int g, long above, long below) {
        String what = "likely of row " + row + ", " + n + " days, " + g + ", ";
        due(what + "above", x.likely(row, 1, 2, 10, n, g, 0), above);
        due(what + "below", x.likely(row, 1, 2, 10, n, g, 1), below);
    }

    @Says({"the n DAYS (0 to 12) after it", "above and below (0 by 1)"})
    static void p18_ofNoDays() {
        likelyOf(land("mw......"), 0, 0, 8, 0, 1);
        likelyOf(land("mmmmmmmm"), 0, 0, 0, 0, 1);
        likelyOf(land("mw......"), 0, 0, 16, 0, 1);
    }

    @Says("by g sixteenths (0 to 16; no others)")
    static void p18_withoutGales() {
        likelyOf(land("mw......"), 0, 1, 0, 1, 1);
        likelyOf(land("mw......"), 0, 12, 0, 1, 1);
        likelyOf(land("mw......"), 7, 12, 0, 0, 1);
    }

    @Says("by g sixteenths (0 to 16; no others)")
    static void p18_aGaleEachDay() {
        TurningVillage x = land("mw......");
        likelyOf(x, 7, 1, 16, 1, 1);
        likelyOf(x, 6, 1, 16, 0, 1);
        likelyOf(x, 6, 2, 16, 1, 1);
        likelyOf(x, 0, 7, 16, 0, 1);
        likelyOf(x, 0, 8, 16, 1, 1);
    }

    @Says({"by g sixteenths (0 to 16; no others), by itself: the chance that it can on one at least of the n DAYS",
        "FRACTIONS are told in lowest terms"})
    static void p18_onOneAtLeast() {
        TurningVillage x = land("mw......");
        likelyOf(x, 0, 1, 4, 3, 4);
        likelyOf(x, 0, 3, 4, 3, 4);
        likelyOf(x, 7, 1, 4, 1, 4);
        likelyOf(x, 7, 2, 4, 7, 16);
        likelyOf(x, 6, 1, 8, 0, 1);
        likelyOf(x, 6, 2, 8, 1, 4);
        likelyOf(x, 6, 3, 8, 1, 2);
    }

    @Says("the n DAYS (0 to 12) after it")
    static void p18_ofTwelveDays() {
        TurningVillage x = land("mw......");
        // 16 to the 12th less 15 to the 12th.
        likelyOf(x, 7, 12, 1, 281474976710656L - 129746337890625L, 281474976710656L);
        likelyOf(x, 7, 12, 15, 281474976710655L, 281474976710656L);
        // Of 4096 ways 2048 have none on the first DAY, 562 one then and 7 or more on the other 11: once round.
        likelyOf(x, 0, 12, 8, 1305, 2048);
    }

    @Says({"with GALES of a DAY and earlier ones as they COUNT", "each DAY after it"})
    static void p18_byTheTurnOfThatDay() {
        TurningVillage x = windy("mw......", 10, 11);
        due("one more gale is needed", x.likely(6, 1, 2, 10, 1, 4, 0), 1);
        due("below", x.likely(6, 1, 2, 10, 1, 4, 1), 4);
        due("that of the next day is forgotten", x.likely(7, 1, 2, 10, 1, 4, 0), 3);
        due("that of this day is not", x.likely(7, 1, 2, 9, 1, 4, 0), 1);
        x.takeBack(0, 0);
        due("one taken back does not count", x.likely(7, 1, 2, 10, 1, 4, 0), 1);
    }

    @Says("of the n DAYS (0 to 12) after it")
    static void p18_notOnThatDayItself() {
        TurningVillage x = land("mw......");
        likelyOf(x, 0, 1, 16, 0, 1);
    }

    @Says("each DAY after it there is one from the west")
    static void p18_roundAtEachTurn() {
        TurningVillage x = land("mw......");
        for (int turn = 0; turn < 8; turn++) {
            x.set(2, turn);
            for (int row = 0; row < 8; row++) {
                int at = (row + turn) % 8;
                likelyOf(x, row, 1, 4, at == 0 ? 3 : at == 7 ? 1 : 0, at == 0 || at == 7 ? 4 : 1);
            }
        }
    }

    @Says("the n DAYS (0 to 12) after it")
    static void p18_behindTheLastDay() {
        TurningVillage x = land("mw......");
        due("of day 99", x.likely(6, 1, 2, 99, 12, 16, 0), 1);
        due("of day 95", x.likely(0, 1, 2, 95, 8, 16, 0), 1);
    }

    @Says({"LIKELY: above, below. BAD. (A refusal -x is the least long and x more.)",
        "Where the answer is a long, a refusal -x is the least long and x more."})
    static void p18_bad() {
        bounds((x, a) -> x.likely(a[0], a[1], a[2], a[3], a[4], a[5], a[6]), BAD_LONG,
            new int[] {3, 1, 2, 50, 6, 4, 0}, ROW, THING, THING, DAY, new int[] {0, 12}, new int[] {0, 16}, WHAT);
    }
}
