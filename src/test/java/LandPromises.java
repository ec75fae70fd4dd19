/** Promises 1 to 6 and 11: a new object, THE LAND and its FAULT, PLACES, BRIDGES, SUN. */
final class LandPromises extends Check {
    private static final String SIGNS = "mwsf.f.f";
    private static final String PARTS = "mwsf.f.f;x2;b0442";
    private static final String FOUR = "mwsf.f.f;b0110;b0120;b0131;b0180";

    private static void faultOf(String text, int want) {
        due("fault of " + text, land(text).fault(), want);
    }

    private static boolean isFigure(char b, int low, int high) {
        return b >= '0' + low && b <= '0' + high;
    }

    // ---- 1

    @Says("An empty text, no GALES; all SHEETS are LOST.")
    static void p01_theTextIsEmpty() {
        TurningVillage x = new TurningVillage();
        due("bytes", x.count(2), 0);
        due("fault", x.fault(), 0);
        due("wipe", x.wipe(), 0);
        due("first byte", x.type('m'), 1);
    }

    @Says({"An empty text, no GALES; all SHEETS are LOST.", "GALES are told at a TIME (0 to 999"})
    static void p01_thereAreNoGales() {
        TurningVillage x = new TurningVillage();
        due("gales", x.count(0), 0);
        due("gales that count", x.count(1), 0);
        due("turn at the end", x.turn(99), 0);
        due("none to take back", x.takeBack(0, 0), BAD);
        due("the first one, at the least time", x.gale(0, 0, 0), 0);
    }

    @Says("SHEETS 0 .. 3 are LOST (at first)")
    static void p01_allSheetsAreLost() {
        TurningVillage x = new TurningVillage();
        for (int s = 0; s < 4; s++) {
            due("lose", x.lose(s), NULL);
            due("write", x.write(0, s), NULL);
            due("read", x.read(s, 0), NULL);
        }
    }

    @Says({"AS OF a TIME (999 at first)", "WING (0 to 7; 0 at first), BEGIN (0 to 7; 0)"})
    static void p01_settingsAtFirst() {
        TurningVillage x = new TurningVillage();
        due("as of", x.set(0, 0), 999);
        due("wing", x.set(1, 0), 0);
        due("begin", x.set(2, 0), 0);
    }

    @Says({"the next one round is closed (open at first)", "SUN of PLACES is 0 to 9 (0 at first)"})
    static void p01_placesAtFirst() {
        TurningVillage x = new TurningVillage();
        for (int place = 0; place < 8; place++) {
            due("thing", x.place(place, 0), 0);
            due("path", x.place(place, 1), 1);
            due("sun", x.place(place, 2), 0);
        }
        due("bridges", x.count(3), 0);
        due("closed paths", x.count(4), 0);
    }

    @Says({"TENANTS 0 to 7 live in a ROW each (0 to 7, in order, at first)", "WISHES (0 to 9; 0 at first)",
        "(0 to 12; NONE: not known, at first)"})
    static void p01_tenantsAndRowsAtFirst() {
        TurningVillage x = new TurningVillage();
        for (int i = 0; i < 8; i++) {
            due("lives", x.lives(i), i);
            due("reaped", x.reaped(i, NONE), NONE);
            for (int thing = 0; thing < 5; thing++) {
                due("wish", x.wish(i, thing, 0), 0);
            }
        }
        due("in their own rows", x.count(7), 8);
    }

    @Says("8 the number of the latest FINDING (0 before any)")
    static void p01_noFindingAtFirst() {
        due("finding", new TurningVillage().count(8), 0);
    }

    /** A call of many kinds, by its number; all that they change a later one of them changes back. */
    private static void someCall(TurningVillage x, int i) {
        int place = i / 16 % 8;
        switch (i % 16) {
            case 0: x.wipe(); break;
            case 1: x.type('m'); break;
            case 2: x.sun(place, 9); break;
            case 3: x.sun(place, 0); break;
            case 4: x.set(0, 5); break;
            case 5: x.set(0, 999); break;
            case 6: x.sheet(1, 2, 60); break;
            case 7: x.write(40, 1); break;
            case 8: x.copy(1, 0, 1, 30, 30); break;
            case 9: x.lose(1); break;
            case 10: x.reaped(place, 3); break;
            case 11: x.history(88, 12, 0); break;
            case 12: x.reaped(place, NONE); break;
            case 13: x.best(NONE, 0, 99); break;
            case 14: x.likely(place, 0, 0, 50, 12, 5, 0); break;
            default: x.meet(place, (place + 4) % 8, 0, 1); break;
        }
    }

    @Says("An object is used for at most 512 calls after it has been made")
    static void p01_theLastOf512Calls() {
        String text = "mwsf.f.f;x2;b0442";
        TurningVillage x = new TurningVillage();
        for (int call = 1; call <= 480; call++) {
            someCall(x, call - 1);
        }
        due("call 481, of a byte", x.wipe(), 1);
        typeAll(x, text);
        for (int call = 482 + text.length(); call <= 511; call++) {
            due("call " + call, x.gale(3 * call % 100, 0, call), call - 482 - text.length());
        }
        TurningVillage y = land(text);
        for (int call = 482 + text.length(); call <= 511; call++) {
            y.gale(3 * call % 100, 0, call);
        }
        due("call 512", x.digest(), y.digest());
    }

    @Says("An empty text, no GALES; all SHEETS are LOST.")
    static void p01_objectsShareNothing() {
        long before = new TurningVillage().digest();
        TurningVillage x = busy();
        TurningVillage y = new TurningVillage();
        due("digest of a new one beside a busy one", y.digest(), before);
        due("its sheets", y.lose(0), NULL);
        due("finding of the busy one", x.count(8), 5);
    }

    // ---- 2

    private static final Call TYPE = (x, a) -> x.type(a[0]);

    @Says("A byte (0 to 255) comes behind THE LAND: how many. BAD; FULL.")
    static void p02_everyByteIsTaken() {
        for (int b = 0; b < 256; b++) {
            due("type of " + b, new TurningVillage().type(b), 1);
        }
    }

    @Says("A byte (0 to 255) comes behind THE LAND: how many. BAD; FULL.")
    static void p02_bad() {
        bounds(TYPE, BAD, new int[] {'m'}, new int[] {0, 255});
    }

    @Says({"A byte (0 to 255) comes behind THE LAND: how many.", "THE LAND is a text of up to 60 bytes"})
    static void p02_howManyUpToSixty() {
        TurningVillage x = new TurningVillage();
        for (int i = 1; i <= 60; i++) {
            due("byte " + i, x.type('m'), i);
            due("bytes", x.count(2), i);
        }
    }

    private static TurningVillage sixtyBytes() {
        return land(SIGNS + ";x0".repeat(17) + ";");
    }

    @Says({"BAD; FULL.", "They change nothing"})
    static void p02_theSixtyFirstIsFull() {
        refused(LandPromises::sixtyBytes, TYPE, FULL, 'x');
        refused(LandPromises::sixtyBytes, TYPE, FULL, 0);
        refused(LandPromises::sixtyBytes, TYPE, FULL, 255);
    }

    @Says({"BAD; FULL.", "Refusals, the first that fits, in the order told at each act"})
    static void p02_badAheadOfFull() {
        refused(LandPromises::sixtyBytes, TYPE, BAD, -1);
        refused(LandPromises::sixtyBytes, TYPE, BAD, 256);
    }

    @Says("comes behind THE LAND")
    static void p02_behindWhatThereIs() {
        TurningVillage x = new TurningVillage();
        typeAll(x, "mw");
        typeAll(x, "sf....");
        int[] things = {1, 2, 3, 4, 0, 0, 0, 0};
        for (int place = 0; place < 8; place++) {
            due("thing", x.place(place, 0), things[place]);
        }
    }

    // ---- 3

    @Says("THE LAND is empty: how many bytes it had.")
    static void p03_ofAnEmptyOne() {
        TurningVillage x = land(SIGNS);
        due("of eight", x.wipe(), 8);
        due("of none", x.wipe(), 0);
        due("of none again", x.wipe(), 0);
    }

    @Says("THE LAND is empty: how many bytes it had.")
    static void p03_ofAFullOne() {
        TurningVillage x = sixtyBytes();
        due("of sixty", x.wipe(), 60);
        due("bytes", x.count(2), 0);
        due("there is room again", x.type('m'), 1);
    }

    @Says("THE LAND is empty: how many bytes it had.")
    static void p03_ofAFaultyOne() {
        due("bytes", land("q;;").wipe(), 3);
    }

    @Says({"THE LAND is empty: how many bytes it had.", "(of a shorter one its end)"})
    static void p03_nothingIsLeftOfIt() {
        TurningVillage x = land("mwsfmwsf;x0;x7;b0110;b2610");
        due("wipe", x.wipe(), 26);
        due("fault", x.fault(), 0);
        for (int place = 0; place < 8; place++) {
            due("thing", x.place(place, 0), 0);
            due("path", x.place(place, 1), 1);
        }
        due("bridges", x.count(3), 0);
        due("closed paths", x.count(4), 0);
        due("no bridge meets", x.bridge(2, 6, 0), 0);
    }

    @Says("THE LAND is empty: how many bytes it had.")
    static void p03_allElseStays() {
        TurningVillage x = busy(), twin = busy();
        x.wipe();
        for (int i = 0; i < 8; i++) {
            due("sun", x.place(i, 2), i + 1);
            due("lives", x.lives(i), twin.lives(i));
        }
        due("gales", x.count(0), BUSY_GALES);
        due("turn", x.turn(99), twin.turn(99));
        due("sheet", x.get(0, 0, 2), 99);
        due("wish", x.wish(1, 0, 0), 3);
        due("reaped", x.reaped(2, 0), 3);
        due("finding", x.count(8), 5);
    }

    // ---- 4

    @Says({"(of a shorter one its end)", "eight signs of PLACES 0 to 7"})
    static void p04_ofAShorterOneItsEnd() {
        for (int length = 0; length <= PARTS.length(); length++) {
            boolean whole = length == 8 || length == 11 || length == 17;
            faultOf(PARTS.substring(0, length), whole ? NONE : length);
        }
    }

    @Says("The FAULT; NONE.")
    static void p04_noneOfAWholeOne() {
        faultOf("........", NONE);
        faultOf("mmmmmmmm", NONE);
        faultOf(SIGNS, NONE);
        faultOf(PARTS, NONE);
    }

    @Says({". nothing, m a MILL, w a WELL, s a MARSH, f a FIELD",
        "the place of the first byte with which it cannot go on"})
    static void p04_signsThatAreNone() {
        for (int at = 0; at < 8; at++) {
            for (char b = 0; b < 256; b++) {
                String text = SIGNS.substring(0, at) + b + SIGNS.substring(at + 1);
                faultOf(text, ".mwsf".indexOf(b) >= 0 ? NONE : at);
            }
        }
    }

    @Says({"then parts, each behind a ;", "the place of the first byte with which it cannot go on"})
    static void p04_aNinthThatIsNoPart() {
        for (char b = 0; b < 256; b++) {
            faultOf(SIGNS + b, b == ';' ? 9 : 8);
        }
    }

    @Says({"x and a PLACE", "b and four figures", "the place of the first byte with which it cannot go on"})
    static void p04_aPartThatIsNeither() {
        for (char b = 0; b < 256; b++) {
            faultOf(SIGNS + ";" + b, b == 'x' || b == 'b' ? 10 : 9);
        }
    }

    @Says({"x and a PLACE: the PATH from it to the next one round is closed", "of a figure that may not be"})
    static void p04_aPathOfNoPlace() {
        for (char b = 0; b < 256; b++) {
            faultOf(SIGNS + ";x" + b, isFigure(b, 0, 7) ? NONE : 10);
        }
    }

    @Says({"then parts, each behind a ;", "the place of the first byte with which it cannot go on"})
    static void p04_behindAPartOnlyAnother() {
        for (char b = 0; b < 256; b++) {
            faultOf(SIGNS + ";x2" + b, b == ';' ? 12 : 11);
            faultOf(SIGNS + ";b0442" + b, b == ';' ? 15 : 14);
        }
    }

    @Says({"a BRIDGE (4 at most) between two PLACES (not one)", "of a figure that may not be"})
    static void p04_aBridgeFromNoPlace() {
        for (char b = 0; b < 256; b++) {
            String other = b == '0' ? "1" : "0";
            faultOf(SIGNS + ";b" + b + other + "10", isFigure(b, 0, 7) ? NONE : 10);
        }
    }

    @Says({"a BRIDGE (4 at most) between two PLACES (not one)", "of a figure that may not be"})
    static void p04_aBridgeToNoPlaceOrItsOwn() {
        for (int one = 0; one < 8; one++) {
            for (char b = 0; b < 256; b++) {
                boolean good = isFigure(b, 0, 7) && b != '0' + one;
                faultOf(SIGNS + ";b" + one + b + "10", good ? NONE : 11);
            }
        }
    }

    @Says({"modulo M (1 to 8) are K", "of a figure that may not be"})
    static void p04_moduloFromOneToEight() {
        for (char b = 0; b < 256; b++) {
            faultOf(SIGNS + ";b04" + b + "0", isFigure(b, 1, 8) ? NONE : 12);
        }
    }

    @Says({"are K (less than M)", "of a figure that may not be"})
    static void p04_restLessThanModulo() {
        for (int modulo = 1; modulo <= 8; modulo++) {
            for (char b = 0; b < 256; b++) {
                faultOf(SIGNS + ";b04" + modulo + b, isFigure(b, 0, modulo - 1) ? NONE : 13);
            }
        }
    }

    @Says("a BRIDGE (4 at most)")
    static void p04_fourBridges() {
        faultOf(FOUR, NONE);
        due("bridges", land(FOUR).count(3), 4);
        faultOf(FOUR + ";x0", NONE);
        due("bridges", land(FOUR + ";x0").count(3), 4);
    }

    @Says("or of the b of a fifth")
    static void p04_theBOfAFifth() {
        faultOf(FOUR + ";", 33);
        faultOf(FOUR + ";b", 33);
        faultOf(FOUR + ";b0", 33);
        faultOf(FOUR + ";b0110", 33);
        faultOf(FOUR + ";b99", 33);
        faultOf(FOUR + ";x0;b0110", 36);
        faultOf(SIGNS + ";x1;b0110;x2;b0110;b0110;b0110;b0110", 39);
    }

    @Says("the place of the first byte with which it cannot go on")
    static void p04_theFirstOfTwo() {
        faultOf("qqsf.f.f", 0);
        faultOf("mwsf.f.q;x9", 7);
        faultOf(SIGNS + ";x9;x9", 10);
        faultOf(SIGNS + ";b8899", 10);
        faultOf(SIGNS + ";b0099", 11);
        faultOf(SIGNS + ";b0199", 12);
        faultOf(SIGNS + ";b0110;x8;b", 16);
    }

    @Says("With a FAULT all is nothing, all PATHS are open, there are no BRIDGES.")
    static void p04_withAFaultAllIsNothing() {
        TurningVillage x = land("mwsfmwsf;x0;x7;b0410");
        x.sun(5, 4);
        due("whole", x.fault(), NONE);
        due("bridge", x.bridge(0, 4, 0), 1);
        x.type(';');
        due("fault", x.fault(), 21);
        for (int place = 0; place < 8; place++) {
            due("thing", x.place(place, 0), 0);
            due("path", x.place(place, 1), 1);
            due("thing at a door", x.door(place, 0, 1), 0);
        }
        due("no bridge", x.bridge(0, 4, 0), 0);
        due("bridges", x.count(3), 0);
        due("closed paths", x.count(4), 0);
        due("no way by a bridge", x.soon(0, 4, 0), 4);
        due("sun stays", x.place(5, 2), 4);
    }

    @Says("With a FAULT all is nothing, all PATHS are open, there are no BRIDGES.")
    static void p04_nothingOfWhatStandsAheadOfIt() {
        for (String text : new String[] {"mwsfmwsq", "mwsfmwsf;x1;x8", "mwsfmwsf;x1;b0410;b0411", "mwsfmwsf;b0410;x"}) {
            TurningVillage x = land(text);
            for (int place = 0; place < 8; place++) {
                due("thing of " + text, x.place(place, 0), 0);
                due("path of " + text, x.place(place, 1), 1);
            }
            due("bridges of " + text, x.count(3), 0);
            due("bridge of " + text, x.bridge(0, 4, 0), 0);
        }
    }

    @Says("(of a shorter one its end)")
    static void p04_whatIsShortCanBecomeWhole() {
        TurningVillage x = land("mwsfmwsf;x1;b0410;");
        due("fault", x.fault(), 18);
        typeAll(x, "x2");
        due("fault", x.fault(), NONE);
        due("thing", x.place(1, 0), 2);
        due("closed paths", x.count(4), 2);
        due("bridge", x.bridge(0, 4, 0), 1);
    }

    @Says("the place of the first byte with which it cannot go on")
    static void p04_whatIsWrongStaysWrong() {
        TurningVillage x = land("mwq");
        due("fault", x.fault(), 2);
        typeAll(x, SIGNS);
        due("fault", x.fault(), 2);
        x.wipe();
        typeAll(x, SIGNS);
        due("fault of the next one", x.fault(), NONE);
    }

    @Says("THE LAND is a text of up to 60 bytes")
    static void p04_atTheEndOfSixty() {
        TurningVillage x = land(SIGNS + ";x0".repeat(17));
        due("bytes", x.count(2), 59);
        due("fault of 59", x.fault(), NONE);
        x.type(';');
        due("fault of 60", x.fault(), 60);
    }

    @Says("x and a PLACE: the PATH from it to the next one round is closed")
    static void p04_aPathClosedTwice() {
        faultOf(SIGNS + ";x7;x7", NONE);
        due("closed paths", land(SIGNS + ";x7;x7").count(4), 1);
    }

    // ---- 5

    @Says({"its THING (what = 0)", "(THINGS 0 to 4)"})
    static void p05_things() {
        TurningVillage x = land(".mwsffsw");
        int[] things = {0, 1, 2, 3, 4, 4, 3, 2};
        for (int place = 0; place < 8; place++) {
            due("thing of " + place, x.place(place, 0), things[place]);
        }
    }

    @Says({"whether the PATH to the next one is open (1)", "the PATH from it to the next one round is closed"})
    static void p05_eachPathByItself() {
        for (int shut = 0; shut < 8; shut++) {
            TurningVillage x = land("........;x" + shut);
            for (int place = 0; place < 8; place++) {
                due("path of " + place + " with " + shut + " closed", x.place(place, 1), place == shut ? 0 : 1);
            }
        }
    }

    @Says("its SUN (2)")
    static void p05_sun() {
        TurningVillage x = new TurningVillage();
        x.sun(0, 9);
        x.sun(7, 1);
        due("of the first", x.place(0, 2), 9);
        due("of the last", x.place(7, 2), 1);
        due("of another", x.place(1, 2), 0);
    }

    @Says("Of a PLACE: its THING (what = 0), whether the PATH to the next one is open (1), its SUN (2). BAD.")
    static void p05_bad() {
        bounds((x, a) -> x.place(a[0], a[1]), BAD, new int[] {3, 0}, new int[] {0, 7}, new int[] {0, 2});
    }

    // ---- 6

    @Says("Whether a BRIDGE between two PLACES meets on a DAY: 1, 0.")
    static void p06_eitherWay() {
        for (int pair = 0; pair < 64; pair++) {
            int one = pair / 8, other = pair % 8;
            if (one != other) {
                TurningVillage x = land("........;b" + one + other + "10");
                due("there", x.bridge(one, other, 0), 1);
                due("back", x.bridge(other, one, 0), 1);
                for (int third = 0; third < 8; third++) {
                    if (third != one && third != other) {
                        due("from one elsewhere", x.bridge(one, third, 0), 0);
                        due("from the other elsewhere", x.bridge(other, third, 0), 0);
                        due("from elsewhere to one", x.bridge(third, one, 0), 0);
                        due("from elsewhere to the other", x.bridge(third, other, 0), 0);
                    }
                }
            }
        }
    }

    @Says("that meets at TURNS that modulo M (1 to 8) are K (less than M)")
    static void p06_byEachModuloAndRest() {
        for (int modulo = 1; modulo <= 8; modulo++) {
            for (int rest = 0; rest < modulo; rest++) {
                TurningVillage x = windy("........;b17" + modulo + rest, 1, 2, 3, 4, 5, 6, 7, 8);
                for (int day = 0; day <= 8; day++) {
                    due("modulo " + modulo + ", " + rest + ", day " + day, x.bridge(1, 7, day),
                        day % 8 % modulo == rest ? 1 : 0);
                }
            }
        }
    }

    @Says("Whether a BRIDGE between two PLACES meets on a DAY: 1, 0.")
    static void p06_onTheFirstAndTheLastDay() {
        TurningVillage x = windy("........;b0421", 99);
        due("day 0", x.bridge(0, 4, 0), 0);
        due("day 98", x.bridge(0, 4, 98), 0);
        due("day 99", x.bridge(0, 4, 99), 1);
    }

    @Says("Whether a BRIDGE between two PLACES meets on a DAY: 1, 0.")
    static void p06_twoBetweenTheSame() {
        TurningVillage x = windy("........;b0481;b4083", 1, 2, 3);
        due("neither", x.bridge(0, 4, 0), 0);
        due("the first", x.bridge(0, 4, 1), 1);
        due("neither again", x.bridge(0, 4, 2), 0);
        due("the second", x.bridge(0, 4, 3), 1);
    }

    @Says("a BRIDGE (4 at most)")
    static void p06_eachOfFour() {
        TurningVillage x = land("........;b0210;b1310;b2410;b7510");
        due("first", x.bridge(0, 2, 0), 1);
        due("second", x.bridge(1, 3, 0), 1);
        due("third", x.bridge(2, 4, 0), 1);
        due("fourth", x.bridge(7, 5, 0), 1);
        due("none", x.bridge(0, 3, 0), 0);
    }

    @Says("Whether a BRIDGE between two PLACES meets on a DAY: 1, 0.")
    static void p06_aPathIsNone() {
        TurningVillage x = land("........");
        due("neighbours", x.bridge(0, 1, 0), 0);
        due("neighbours round", x.bridge(7, 0, 0), 0);
    }

    private static final Call BRIDGE = (x, a) -> x.bridge(a[0], a[1], a[2]);

    @Says("BAD: also one with itself.")
    static void p06_oneWithItself() {
        for (int place = 0; place < 8; place++) {
            refused(Check::busy, BRIDGE, BAD, place, place, 50);
        }
    }

    @Says("Whether a BRIDGE between two PLACES meets on a DAY: 1, 0. BAD")
    static void p06_bad() {
        bounds(BRIDGE, BAD, new int[] {3, 4, 50}, new int[] {0, 7}, new int[] {0, 7}, new int[] {0, 99});
    }

    // ---- 11

    @Says("SUN of a PLACE: what it was. BAD.")
    static void p11_whatItWas() {
        for (int place = 0; place < 8; place++) {
            TurningVillage x = new TurningVillage();
            due("at first", x.sun(place, 9), 0);
            due("the most", x.sun(place, 0), 9);
            due("the least", x.sun(place, 5), 0);
            for (int other = 0; other < 8; other++) {
                due("sun of " + other, x.place(other, 2), other == place ? 5 : 0);
            }
        }
    }

    @Says({"SUN of a PLACE: what it was. BAD.", "SUN of PLACES is 0 to 9 (0 at first)."})
    static void p11_bad() {
        bounds((x, a) -> x.sun(a[0], a[1]), BAD, new int[] {3, 5}, new int[] {0, 7}, new int[] {0, 9});
    }
}
