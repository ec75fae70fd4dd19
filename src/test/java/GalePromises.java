/** Promises 7 to 10, 12 and 13: GALES told and taken back, SETTINGS, TURNS, DOORS. */
final class GalePromises extends Check {
    private static final Call GALE = (x, a) -> x.gale(a[0], a[1], a[2]);
    private static final Call READ = (x, a) -> x.read(a[0], a[1]);
    private static final Call TAKE_BACK = (x, a) -> x.takeBack(a[0], a[1]);
    private static final Call SET = (x, a) -> x.set(a[0], a[1]);

    // ---- 7

    @Says("A GALE is told at a TIME: its number.")
    static void p07_numbersFromNothingOn() {
        TurningVillage x = new TurningVillage();
        for (int i = 0; i < 60; i++) {
            due("number", x.gale(99 - i, i & 1, 5), i);
            due("gales", x.count(0), i + 1);
        }
    }

    @Says({"BAD: also a TIME less than the one before; FULL.", "60 at most"})
    static void p07_theSixtyFirstIsFull() {
        refused(Check::full, GALE, FULL, 0, 0, 40);
        refused(Check::full, GALE, FULL, 99, 1, 999);
    }

    @Says({"BAD: also a TIME less than the one before; FULL.",
        "Refusals, the first that fits, in the order told at each act"})
    static void p07_badAheadOfFull() {
        refused(Check::full, GALE, BAD, 100, 0, 40);
        refused(Check::full, GALE, BAD, 0, 2, 40);
        refused(Check::full, GALE, BAD, 0, 0, 39);
        refused(Check::full, GALE, BAD, 0, 0, 1000);
    }

    @Says({"60 at most", "each can be TAKEN BACK at a TIME"})
    static void p07_takenBackItIsStillOneOfSixty() {
        TurningVillage x = full();
        due("taken back", x.takeBack(7, 40), 1);
        due("one more", x.gale(0, 0, 40), FULL);
        due("gales", x.count(0), 60);
        due("gales that count", x.count(1), 59);
    }

    @Says("GALES are told at a TIME (0 to 999; not less than the one ahead, of taking back, too)")
    static void p07_atALikeTime() {
        TurningVillage x = new TurningVillage();
        due("at 0", x.gale(1, 0, 0), 0);
        due("at 0 again", x.gale(1, 0, 0), 1);
        due("at 999", x.gale(1, 0, 999), 2);
        due("at 999 again", x.gale(1, 0, 999), 3);
        due("at 998", x.gale(1, 0, 998), BAD);
    }

    @Says("BAD: also a TIME less than the one before")
    static void p07_atALesserTime() {
        refused(Check::busy, GALE, BAD, 50, 0, BUSY_TIME - 1);
        refused(Check::busy, GALE, BAD, 50, 0, 0);
    }

    @Says("not less than the one ahead, of taking back, too")
    static void p07_atALesserTimeThanATakingBack() {
        TurningVillage x = new TurningVillage();
        x.gale(1, 0, 5);
        x.takeBack(0, 8);
        due("less", x.gale(1, 0, 7), BAD);
        due("like", x.gale(1, 0, 8), 1);
    }

    @Says("They change nothing")
    static void p07_aRefusedTimeIsNotTheOneBefore() {
        TurningVillage x = new TurningVillage();
        due("refused by its day", x.gale(100, 0, 500), BAD);
        due("refused by where from", x.gale(0, 2, 500), BAD);
        due("earlier", x.gale(0, 0, 3), 0);
    }

    @Says({"A GALE is told at a TIME: its number. BAD", "a DAY (0 to 99), FROM the west (0) or the north (1), 60 at most"})
    static void p07_bad() {
        bounds(GALE, BAD, new int[] {50, 0, 50}, new int[] {0, 99}, new int[] {0, 1}, new int[] {BUSY_TIME, 999});
    }

    @Says("GALES are told at a TIME (0 to 999")
    static void p07_badTimesOfANewObject() {
        refused(TurningVillage::new, GALE, BAD, 0, 0, -1);
        refused(TurningVillage::new, GALE, BAD, 0, 0, 1000);
    }

    // ---- 8

    private static TurningVillage reading(int form, int... days) {
        TurningVillage x = new TurningVillage();
        fill(x, 0, form, days);
        return x;
    }

    @Says("items of a SHEET are their DAYS, one by one as gale() takes them")
    static void p08_ofEachForm() {
        for (int form = 0; form < 3; form++) {
            TurningVillage x = reading(form, 0, 99, 50, 50);
            due("took", x.read(0, 3), 4);
            due("gales", x.count(0), 4);
            due("turn of 0", x.turn(0), 1);
            due("turn of 49", x.turn(49), 1);
            due("turn of 50", x.turn(50), 3);
            due("turn of 98", x.turn(98), 3);
            due("turn of 99", x.turn(99), 4);
        }
    }

    @Says("up to the first that it refuses: how many it took")
    static void p08_upToADayThatIsNone() {
        for (int wrong : new int[] {100, -1, LEAST, MOST}) {
            TurningVillage x = reading(2, 3, 4, wrong, 5);
            due("took, with " + wrong, x.read(0, 0), 2);
            due("gales", x.count(0), 2);
            due("turn", x.turn(99), 2);
        }
        due("a byte below 0", reading(0, 3, -128, 4).read(0, 0), 1);
        due("the last one", reading(1, 3, 4, 5, 100).read(0, 0), 3);
    }

    @Says("up to the first that it refuses: how many it took")
    static void p08_upToSixtyGales() {
        TurningVillage x = new TurningVillage();
        x.gale(9, 1, 1);
        x.gale(9, 1, 1);
        x.sheet(0, 2, 60);
        due("took", x.read(0, 1), 58);
        due("gales", x.count(0), 60);
        due("none more", x.read(0, 1), 0);
    }

    @Says("of 0 to 60 items")
    static void p08_sixtyAtOnce() {
        TurningVillage x = new TurningVillage();
        x.sheet(0, 0, 60);
        due("took", x.read(0, 999), 60);
        due("that count", x.count(1), 60);
        due("turn", x.turn(0), 60 % 8);
    }

    @Says("up to the first that it refuses: how many it took")
    static void p08_noneAtAll() {
        due("of no items", reading(1).read(0, 0), 0);
        TurningVillage x = reading(1, 100, 3);
        due("the first is refused", x.read(0, 0), 0);
        due("gales", x.count(0), 0);
    }

    @Says({"GALES from the west more, behind those that there are, at a TIME", "as gale() takes them"})
    static void p08_theTimeGoesOnWithAGale() {
        TurningVillage x = reading(0, 3);
        due("took", x.read(0, 7), 1);
        due("an earlier gale", x.gale(0, 0, 6), BAD);
        due("a like one", x.gale(0, 0, 7), 1);
        TurningVillage none = reading(0, 100);
        due("took none", none.read(0, 7), 0);
        due("an earlier gale", none.gale(0, 0, 0), 0);
        TurningVillage full = full();
        full.sheet(0, 0, 1);
        due("took none, as it is full", full.read(0, 900), 0);
        due("an earlier taking back", full.takeBack(0, 40), 1);
    }

    @Says("GALES from the west more, behind those that there are, at a TIME")
    static void p08_fromTheWestBehindTheOthersAtThatTime() {
        TurningVillage x = reading(0, 3, 4);
        x.set(1, 5);
        x.gale(1, 1, 1);
        due("took", x.read(0, 6), 2);
        due("turn", x.turn(99), 7);
        x.set(0, 5);
        due("as of earlier", x.turn(99), 5);
        x.set(0, 6);
        due("as of then", x.turn(99), 7);
        due("the last of them is number 2", x.takeBack(2, 6), 1);
        due("turn of 4 without it", x.turn(4), 6);
        due("no number 3", x.takeBack(3, 6), BAD);
    }

    @Says("GALES from the west more, behind those that there are")
    static void p08_theSheetStays() {
        TurningVillage x = reading(1, 3, 100);
        x.read(0, 0);
        due("first", x.get(0, 1, 0), 3);
        due("second", x.get(0, 1, 1), 100);
        due("no finding", x.count(8), 0);
        due("size", x.lose(0), 2);
    }

    @Says({"BAD: likewise; NULL.", "1 NULL: the SHEET is LOST"})
    static void p08_ofALostOne() {
        found(Check::busy, READ, NULL, 1, 3, BUSY_TIME);
        found(Check::busy, READ, NULL, 1, 3, 999);
        found(TurningVillage::new, READ, NULL, 1, 0, 0);
    }

    @Says("BAD: likewise; NULL.")
    static void p08_badAheadOfNull() {
        refused(Check::busy, READ, BAD, 3, BUSY_TIME - 1);
        refused(Check::busy, READ, BAD, 3, 1000);
        refused(TurningVillage::new, READ, BAD, 0, -1);
        refused(TurningVillage::new, READ, BAD, 4, 0);
    }

    @Says("BAD: likewise; NULL.")
    static void p08_bad() {
        bounds(READ, BAD, new int[] {0, 50}, new int[] {0, 3}, new int[] {BUSY_TIME, 999});
    }

    // ---- 9

    @Says("A GALE is TAKEN BACK at a TIME: 1.")
    static void p09_eachGaleByItself() {
        for (int gale = 0; gale < 3; gale++) {
            TurningVillage x = windy("", 10, 20, 30);
            due("taken back", x.takeBack(gale, 0), 1);
            due("gales", x.count(0), 3);
            due("that count", x.count(1), 2);
            due("turn of 10", x.turn(10), gale == 0 ? 0 : 1);
            due("turn of 20", x.turn(20), gale < 2 ? 1 : 2);
            due("turn of 30", x.turn(30), 2);
        }
        due("the last of sixty", full().takeBack(59, 40), 1);
    }

    @Says("AS OF a TIME (999 at first) those COUNT that were told up to then and not taken back up to then.")
    static void p09_asOfBothEnds() {
        TurningVillage x = new TurningVillage();
        x.gale(10, 0, 10);
        x.gale(10, 0, 20);
        x.takeBack(0, 30);
        int[][] asOf = {{0, 0}, {9, 0}, {10, 1}, {19, 1}, {20, 2}, {29, 2}, {30, 1}, {999, 1}};
        for (int[] pair : asOf) {
            x.set(0, pair[0]);
            due("turn as of " + pair[0], x.turn(10), pair[1]);
            due("count as of " + pair[0], x.count(1), pair[1]);
        }
    }

    @Says("those COUNT that were told up to then and not taken back up to then")
    static void p09_toldAndTakenBackAtOneTime() {
        TurningVillage x = new TurningVillage();
        x.gale(10, 0, 5);
        due("taken back", x.takeBack(0, 5), 1);
        for (int time : new int[] {4, 5, 6, 999}) {
            x.set(0, time);
            due("counts as of " + time, x.count(1), 0);
        }
    }

    private static TurningVillage takenBack() {
        TurningVillage x = windy("", 10, 20);
        x.takeBack(0, 30);
        return x;
    }

    @Says("NOT: it is already.")
    static void p09_notTwice() {
        refused(GalePromises::takenBack, TAKE_BACK, NOT, 0, 30);
        refused(GalePromises::takenBack, TAKE_BACK, NOT, 0, 999);
        TurningVillage x = takenBack();
        x.set(0, 29);
        due("as of a TIME when it was not", x.takeBack(0, 30), NOT);
        due("the other one", x.takeBack(1, 30), 1);
    }

    @Says({"BAD: likewise; NOT: it is already.", "Refusals, the first that fits, in the order told at each act"})
    static void p09_badAheadOfNot() {
        refused(GalePromises::takenBack, TAKE_BACK, BAD, 0, 29);
        refused(GalePromises::takenBack, TAKE_BACK, BAD, 0, 1000);
    }

    @Says("not less than the one ahead, of taking back, too")
    static void p09_timesOfTakingBack() {
        TurningVillage x = new TurningVillage();
        x.gale(1, 0, 5);
        x.gale(1, 0, 5);
        x.gale(1, 0, 5);
        due("less than the gale's", x.takeBack(0, 4), BAD);
        due("like the gale's", x.takeBack(0, 5), 1);
        due("later", x.takeBack(1, 999), 1);
        due("less than the taking back's", x.takeBack(2, 998), BAD);
        due("like the taking back's", x.takeBack(2, 999), 1);
    }

    @Says("BAD: likewise; NOT: it is already.")
    static void p09_bad() {
        bounds(TAKE_BACK, BAD, new int[] {0, 50}, new int[] {0, BUSY_GALES - 1}, new int[] {BUSY_TIME, 999});
        refused(TurningVillage::new, TAKE_BACK, BAD, 0, 0);
        refused(Check::full, TAKE_BACK, BAD, 60, 40);
    }

    // ---- 10

    @Says("AS OF (what = 0), WING (1), BEGIN (2): what it was.")
    static void p10_whatItWas() {
        TurningVillage x = new TurningVillage();
        due("as of", x.set(0, 0), 999);
        due("as of the least", x.set(0, 999), 0);
        due("as of the most", x.set(0, 5), 999);
        due("wing", x.set(1, 7), 0);
        due("wing the most", x.set(1, 0), 7);
        due("wing the least", x.set(1, 3), 0);
        due("begin", x.set(2, 7), 0);
        due("begin the most", x.set(2, 0), 7);
        due("begin the least", x.set(2, 4), 0);
        due("as of stays", x.set(0, 5), 5);
        due("wing stays", x.set(1, 3), 3);
        due("begin stays", x.set(2, 4), 4);
    }

    @Says({"BAD: -5.", "AS OF a TIME"})
    static void p10_badAsOf() {
        // 500 is a TIME, but neither a WING nor a BEGIN.
        bounds(SET, -5, new int[] {0, 500}, new int[] {0, 0}, new int[] {0, 999});
    }

    @Says({"BAD: -5.", "WING (0 to 7; 0 at first), BEGIN (0 to 7; 0)"})
    static void p10_badWingAndBegin() {
        for (int what = 1; what <= 2; what++) {
            int which = what;
            bounds((x, a) -> x.set(which, a[0]), -5, new int[] {3}, new int[] {0, 7});
        }
    }

    @Says("BAD: -5.")
    static void p10_badWhat() {
        bounds((x, a) -> x.set(a[0], 0), -5, new int[] {1}, new int[] {0, 2});
    }

    @Says("AS OF a TIME (999 at first)")
    static void p10_asOfIsNotTheTimeOfGales() {
        TurningVillage x = new TurningVillage();
        x.gale(1, 0, 50);
        x.set(0, 20);
        due("a gale at a later TIME", x.gale(1, 0, 50), 1);
        due("none counts", x.count(1), 0);
        x.set(0, 999);
        due("a gale at an earlier TIME than AS OF", x.gale(1, 0, 60), 2);
        due("all count", x.count(1), 3);
    }

    // ---- 12

    @Says("TURN of a DAY: BEGIN, 1 for each GALE from the west, WING for each one from the north")
    static void p12_beginWithoutGales() {
        TurningVillage x = new TurningVillage();
        for (int begin = 0; begin < 8; begin++) {
            x.set(2, begin);
            due("first day", x.turn(0), begin);
            due("last day", x.turn(99), begin);
        }
    }

    @Says("of that DAY or earlier ones, that COUNTS")
    static void p12_ofThatDayOrEarlierOnes() {
        for (int day : new int[] {0, 1, 50, 98, 99}) {
            TurningVillage x = windy("", day);
            for (int asked = 0; asked < 100; asked++) {
                due("turn of " + asked + " with a gale on " + day, x.turn(asked), asked < day ? 0 : 1);
            }
        }
    }

    @Says("GALES are told at a TIME (0 to 999; not less than the one ahead, of taking back, too): a DAY (0 to 99)")
    static void p12_toldLateOfAnEarlierDay() {
        TurningVillage x = new TurningVillage();
        x.gale(50, 0, 1);
        x.gale(20, 0, 2);
        due("day 19", x.turn(19), 0);
        due("day 20", x.turn(20), 1);
        due("day 50", x.turn(50), 2);
    }

    @Says({"WING for each one from the north", "FROM the west (0) or the north (1)"})
    static void p12_wingForThoseFromTheNorth() {
        TurningVillage x = new TurningVillage();
        x.gale(10, 1, 0);
        x.gale(20, 0, 0);
        x.gale(30, 1, 0);
        for (int wing = 0; wing < 8; wing++) {
            x.set(1, wing);
            due("day 9", x.turn(9), 0);
            due("day 10", x.turn(10), wing);
            due("day 20", x.turn(20), (wing + 1) % 8);
            due("day 30", x.turn(30), (2 * wing + 1) % 8);
        }
    }

    @Says("that COUNTS, modulo 8")
    static void p12_moduloEight() {
        TurningVillage x = windy("", 1, 2, 3, 4, 5, 6, 7, 8, 9);
        due("seven", x.turn(7), 7);
        due("eight", x.turn(8), 0);
        due("nine", x.turn(9), 1);
        x.set(2, 7);
        due("begin and one", x.turn(1), 0);
        TurningVillage most = new TurningVillage();
        most.set(1, 7);
        most.set(2, 7);
        for (int i = 0; i < 60; i++) {
            most.gale(0, 1, 0);
        }
        due("the most", most.turn(0), (60 * 7 + 7) % 8);
    }

    @Says("TURN of a DAY. BAD.")
    static void p12_bad() {
        bounds((x, a) -> x.turn(a[0]), BAD, new int[] {50}, new int[] {0, 99});
    }

    // ---- 13

    @Says("before ROW r lies PLACE (r and TURN) modulo 8 then: that is at its DOOR")
    static void p13_eachRowAtEachTurn() {
        TurningVillage x = land(".mwsffsw");
        int[] things = {0, 1, 2, 3, 4, 4, 3, 2};
        for (int place = 0; place < 8; place++) {
            x.sun(place, 9 - place);
        }
        for (int turn = 0; turn < 8; turn++) {
            x.set(2, turn);
            for (int row = 0; row < 8; row++) {
                int place = (row + turn) % 8;
                due("place", x.door(row, 50, 0), place);
                due("thing", x.door(row, 50, 1), things[place]);
                due("sun", x.door(row, 50, 2), 9 - place);
            }
        }
    }

    @Says("At the DOOR of a ROW on a DAY")
    static void p13_onTheFirstAndTheLastDay() {
        TurningVillage x = windy("", 99);
        due("day 0", x.door(7, 0, 0), 7);
        due("day 98", x.door(7, 98, 0), 7);
        due("day 99", x.door(7, 99, 0), 0);
    }

    @Says("the PLACE (what = 0), the THING (1), its SUN (2). BAD.")
    static void p13_bad() {
        bounds((x, a) -> x.door(a[0], a[1], a[2]), BAD, new int[] {3, 50, 0}, new int[] {0, 7}, new int[] {0, 99},
            new int[] {0, 2});
    }
}
