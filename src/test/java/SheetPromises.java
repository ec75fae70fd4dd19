/** Promises 32 to 37: SHEETS and their FINDINGS. */
final class SheetPromises extends Check {
    private static final int[] SHEET = {0, 3}, FORM = {0, 2};
    private static final Call MAKE = (x, a) -> x.sheet(a[0], a[1], a[2]);
    private static final Call LOSE = (x, a) -> x.lose(a[0]);
    private static final Call PUT = (x, a) -> x.put(a[0], a[1], a[2], a[3]);
    private static final Call GET = (x, a) -> x.get(a[0], a[1], a[2]);
    private static final Call COPY = (x, a) -> x.copy(a[0], a[1], a[2], a[3], a[4]);
    private static final Call WRITE = (x, a) -> x.write(a[0], a[1]);

    private static void holds(TurningVillage x, int s, int form, int... items) {
        for (int i = 0; i < items.length; i++) {
            due("item " + i + " of sheet " + s, x.get(s, form, i), items[i]);
        }
        due("behind the last of sheet " + s, x.get(s, form, items.length), LEAST);
    }

    // ---- 32

    @Says({"A SHEET is a new row of a FORM with n items: n.", "of 0 to 60 items (0 at first)"})
    static void p32_fromNoneToSixty() {
        for (int s = 0; s < 4; s++) {
            for (int form = 0; form < 3; form++) {
                for (int n : new int[] {0, 1, 59, 60}) {
                    TurningVillage x = new TurningVillage();
                    due("made", x.sheet(s, form, n), n);
                    holds(x, s, form, new int[n]);
                    due("lost", x.lose(s), n);
                }
            }
        }
    }

    @Says({"A SHEET is a new row of a FORM with n items", "(0 at first)"})
    static void p32_aNewOneForAnOldOne() {
        TurningVillage x = new TurningVillage();
        fill(x, 0, 1, 7, 8, 9);
        due("of the same form", x.sheet(0, 1, 3), 3);
        holds(x, 0, 1, 0, 0, 0);
        fill(x, 0, 1, 7, 8, 9);
        due("a shorter one", x.sheet(0, 1, 1), 1);
        holds(x, 0, 1, 0);
        due("a longer one", x.sheet(0, 1, 4), 4);
        holds(x, 0, 1, 0, 0, 0, 0);
        due("of another form", x.sheet(0, 2, 2), 2);
        holds(x, 0, 2, 0, 0);
        due("no longer of the old one", x.put(0, 1, 0, 1), CAST);
        x.lose(0);
        due("for a lost one", x.sheet(0, 0, 2), 2);
        holds(x, 0, 0, 0, 0);
    }

    @Says("BAD: SHEET, FORM, above 60; SIZE.")
    static void p32_aboveSixty() {
        refused(Check::busy, MAKE, BAD, 0, 0, 61);
        refused(Check::busy, MAKE, BAD, 3, 2, MOST);
    }

    @Says({"BAD: SHEET, FORM, above 60; SIZE.", "5 SIZE: below 0"})
    static void p32_belowNothing() {
        found(TurningVillage::new, MAKE, SIZE, 5, 0, 0, -1);
        found(Check::busy, MAKE, SIZE, 5, 1, 1, -1);
        found(Check::busy, MAKE, SIZE, 5, 3, 2, LEAST);
    }

    @Says({"BAD: SHEET, FORM, above 60; SIZE.", "Refusals, the first that fits, in the order told at each act"})
    static void p32_badAheadOfSize() {
        refused(TurningVillage::new, MAKE, BAD, -1, 0, -1);
        refused(TurningVillage::new, MAKE, BAD, 4, 0, -1);
        refused(TurningVillage::new, MAKE, BAD, 0, -1, -1);
        refused(TurningVillage::new, MAKE, BAD, 0, 3, -1);
    }

    @Says("BAD: SHEET, FORM, above 60; SIZE.")
    static void p32_bad() {
        bounds((x, a) -> x.sheet(a[0], a[1], 5), BAD, new int[] {0, 0}, SHEET, FORM);
    }

    // ---- 33

    @Says("It is LOST: how many items it had.")
    static void p33_howManyItHad() {
        TurningVillage x = new TurningVillage();
        x.sheet(0, 0, 0);
        x.sheet(3, 2, 60);
        due("none", x.lose(0), 0);
        due("sixty", x.lose(3), 60);
        due("no items", x.put(0, 0, 0, 1), NULL);
        due("no row", x.write(0, 3), NULL);
    }

    @Says({"It is LOST: how many items it had. BAD; NULL.", "1 NULL: the SHEET is LOST"})
    static void p33_ofALostOne() {
        found(Check::busy, LOSE, NULL, 1, 3);
        found(TurningVillage::new, LOSE, NULL, 1, 0);
        TurningVillage x = busy();
        due("lost", x.lose(0), 5);
        due("lost already", x.lose(0), NULL);
        due("another one", x.lose(1), 2);
    }

    @Says("BAD; NULL.")
    static void p33_bad() {
        bounds(LOSE, BAD, new int[] {0}, SHEET);
    }

    // ---- 34

    private static void kept(int form, int v, int want) {
        TurningVillage x = new TurningVillage();
        x.sheet(0, form, 3);
        due("put", x.put(0, form, 1, v), 1);
        holds(x, 0, form, 0, want, 0);
    }

    @Says({"the lowest bits that it has, with its sign", "0 bytes, 1 shorts, 2 ints"})
    static void p34_bytesWrap() {
        int[][] pairs = {{127, 127}, {128, -128}, {-128, -128}, {-129, 127}, {255, -1}, {256, 0}, {-1, -1},
            {0x1280, -128}, {MOST, -1}, {LEAST, 0}};
        for (int[] p : pairs) {
            kept(0, p[0], p[1]);
        }
    }

    @Says({"the lowest bits that it has, with its sign", "0 bytes, 1 shorts, 2 ints"})
    static void p34_shortsWrap() {
        int[][] pairs = {{32767, 32767}, {32768, -32768}, {-32768, -32768}, {-32769, 32767}, {65535, -1}, {65536, 0},
            {128, 128}, {-1, -1}, {MOST, -1}, {LEAST, 0}};
        for (int[] p : pairs) {
            kept(1, p[0], p[1]);
        }
    }

    @Says({"the lowest bits that it has, with its sign", "0 bytes, 1 shorts, 2 ints"})
    static void p34_intsAreWhole() {
        for (int v : new int[] {0, -1, 65536, MOST, LEAST, LEAST + 1}) {
            kept(2, v, v);
        }
    }

    @Says("Item i, treated as of a FORM, becomes v")
    static void p34_firstAndLastItem() {
        TurningVillage x = new TurningVillage();
        x.sheet(2, 1, 60);
        due("first", x.put(2, 1, 0, 5), 1);
        due("last", x.put(2, 1, 59, 6), 1);
        due("got first", x.get(2, 1, 0), 5);
        due("got last", x.get(2, 1, 59), 6);
        due("beside", x.get(2, 1, 58), 0);
    }

    /** SHEETS 0, 1, 2 of the busy village have 5, 2, 3 items of FORM 0, 1, 2; 3 is LOST. */
    private static final int[][] NO_ITEMS = {{0, 0, -1}, {0, 0, 5}, {1, 1, 2}, {2, 2, 3}, {2, 2, LEAST}, {2, 2, MOST}};
    private static final int[][] OTHER_FORMS = {{0, 1, 0}, {0, 2, 9}, {1, 0, 0}, {1, 2, -1}, {2, 0, 0}, {2, 1, LEAST}};
    private static final int[][] LOST_ONES = {{3, 0, 0}, {3, 2, 0}, {3, 1, -1}, {3, 0, 60}};

    @Says({"BAD; NULL; CAST; INDEX.", "2 INDEX: there is no such item"})
    static void p34_noSuchItem() {
        for (int[] a : NO_ITEMS) {
            found(Check::busy, PUT, INDEX, 2, a[0], a[1], a[2], 1);
        }
        TurningVillage x = new TurningVillage();
        x.sheet(0, 0, 0);
        due("of none", x.put(0, 0, 0, 1), INDEX);
    }

    @Says({"BAD; NULL; CAST; INDEX.", "3 CAST: it has another FORM"})
    static void p34_anotherFormAheadOfNoSuchItem() {
        for (int[] a : OTHER_FORMS) {
            found(Check::busy, PUT, CAST, 3, a[0], a[1], a[2], 1);
        }
    }

    @Says({"BAD; NULL; CAST; INDEX.", "1 NULL: the SHEET is LOST"})
    static void p34_lostAheadOfAllItems() {
        for (int[] a : LOST_ONES) {
            found(Check::busy, PUT, NULL, 1, a[0], a[1], a[2], 1);
        }
        TurningVillage x = busy();
        x.lose(2);
        due("one that had items", x.put(2, 2, 0, 1), NULL);
    }

    @Says({"BAD; NULL; CAST; INDEX.", "BAD -2 (a number not as told, no such thing), NULL, NOT -3 (as told), FULL -4, other FINDINGS."})
    static void p34_badAheadOfFindings() {
        refused(Check::busy, PUT, BAD, 3, 3, 0, 1);
        refused(Check::busy, PUT, BAD, 0, -1, 9, 1);
        refused(Check::busy, PUT, BAD, 4, 0, -1, 1);
        bounds((x, a) -> x.put(a[0], a[1], 0, 1), BAD, new int[] {0, 0}, SHEET, FORM);
    }

    // ---- 35

    @Says("Item i of it.")
    static void p35_eachItem() {
        TurningVillage x = busy();
        holds(x, 0, 0, 7, -7, 99, 0, 5);
        holds(x, 1, 1, 300, -300);
        holds(x, 2, 2, 70000, 1, 2);
    }

    @Says("Item i of it.")
    static void p35_theLeastIntIsAnItemToo() {
        TurningVillage x = new TurningVillage();
        fill(x, 0, 2, LEAST);
        due("it", x.get(0, 2, 0), LEAST);
        due("no finding", x.count(8), 0);
    }

    @Says("BAD: the least int; so are NULL, CAST, INDEX (count() 8 tells).")
    static void p35_noSuchItem() {
        for (int[] a : NO_ITEMS) {
            found(Check::busy, GET, LEAST, 2, a);
        }
    }

    @Says("BAD: the least int; so are NULL, CAST, INDEX (count() 8 tells).")
    static void p35_anotherFormAheadOfNoSuchItem() {
        for (int[] a : OTHER_FORMS) {
            found(Check::busy, GET, LEAST, 3, a);
        }
    }

    @Says("BAD: the least int; so are NULL, CAST, INDEX (count() 8 tells).")
    static void p35_lostAheadOfAllItems() {
        for (int[] a : LOST_ONES) {
            found(Check::busy, GET, LEAST, 1, a);
        }
    }

    @Says({"BAD: the least int", "(FINDINGS but count() 8)"})
    static void p35_badIsNoFinding() {
        // The busy village's latest FINDING is 5: what is BAD leaves it so.
        Call bad = (x, a) -> x.get(a[0], a[1], 0) == LEAST && x.count(8) == 5 ? BAD : 1;
        bounds(bad, BAD, new int[] {0, 0}, SHEET, FORM);
        refused(Check::busy, GET, LEAST, 3, 3, 0);
        refused(Check::busy, GET, LEAST, 4, 0, 0);
        refused(Check::busy, GET, LEAST, 0, -1, 9);
    }

    // ---- 36

    private static TurningVillage copying() {
        TurningVillage x = new TurningVillage();
        fill(x, 0, 2, 10, 11, 12, 13, 14);
        fill(x, 1, 2, 20, 21, 22);
        fill(x, 2, 1, 30, 31, 32, 33, 34);
        return x;
    }

    @Says("n items of SHEET s, from i on, come to SHEET t (perhaps s, as they were), from j on: 1.")
    static void p36_toAnotherOne() {
        TurningVillage x = copying();
        due("two", x.copy(0, 3, 1, 1, 2), 1);
        holds(x, 1, 2, 20, 13, 14);
        due("all of it", x.copy(1, 0, 0, 2, 3), 1);
        holds(x, 0, 2, 10, 11, 20, 13, 14);
        holds(x, 1, 2, 20, 13, 14);
    }

    @Says("(perhaps s, as they were)")
    static void p36_ontoItself() {
        TurningVillage up = copying();
        due("up", up.copy(0, 0, 0, 1, 4), 1);
        holds(up, 0, 2, 10, 10, 11, 12, 13);
        TurningVillage down = copying();
        due("down", down.copy(0, 1, 0, 0, 4), 1);
        holds(down, 0, 2, 11, 12, 13, 14, 14);
        due("in place", down.copy(0, 0, 0, 0, 5), 1);
        holds(down, 0, 2, 11, 12, 13, 14, 14);
    }

    @Says("(of n 0, too: i or j above the size)")
    static void p36_noItems() {
        TurningVillage x = copying();
        due("at the ends", x.copy(0, 5, 1, 3, 0), 1);
        due("at the beginnings", x.copy(0, 0, 1, 0, 0), 1);
        holds(x, 1, 2, 20, 21, 22);
        x.sheet(3, 2, 0);
        due("of none", x.copy(3, 0, 3, 0, 0), 1);
        found(SheetPromises::copying, COPY, INDEX, 2, 0, 6, 1, 0, 0);
        found(SheetPromises::copying, COPY, INDEX, 2, 0, 0, 1, 4, 0);
    }

    @Says("INDEX: i, j or n below 0, not so many there")
    static void p36_noSuchItems() {
        int[][] wrong = {{0, -1, 1, 0, 1}, {0, 0, 1, -1, 1}, {0, 0, 1, 0, -1}, {0, -1, 1, 0, 0}, {0, 0, 1, -1, 0},
            {0, 4, 1, 0, 2}, {0, 0, 1, 2, 2}, {0, 0, 1, 0, 4}, {1, 0, 0, 0, 4}, {0, 0, 0, 0, 6}, {0, 1, 1, 1, MOST},
            {0, MOST, 1, 0, 1}, {0, 0, 1, MOST, 1}, {0, MOST, 1, MOST, MOST}, {0, LEAST, 1, 0, 0}, {0, 0, 1, LEAST, 0},
            {0, 0, 1, 0, LEAST}, {0, LEAST, 1, LEAST, LEAST}, {0, 5, 1, 0, -1}, {0, 1, 0, 0, -1}};
        for (int[] a : wrong) {
            found(SheetPromises::copying, COPY, INDEX, 2, a);
        }
    }

    @Says({"BAD: the SHEETS; NULL: s, t; STORE; INDEX", "4 STORE: unlike FORMS"})
    static void p36_unlikeFormsAheadOfNoSuchItems() {
        int[][] wrong = {{0, 0, 2, 0, 1}, {2, 0, 0, 0, 1}, {0, 0, 2, 0, 0}, {0, 9, 2, 0, 0}, {2, 0, 1, 0, -1}};
        for (int[] a : wrong) {
            found(SheetPromises::copying, COPY, STORE, 4, a);
        }
        TurningVillage x = new TurningVillage();
        x.sheet(0, 0, 1);
        x.sheet(1, 1, 1);
        due("bytes to shorts", x.copy(0, 0, 1, 0, 1), STORE);
        due("shorts to bytes", x.copy(1, 0, 0, 0, 1), STORE);
    }

    @Says("BAD: the SHEETS; NULL: s, t; STORE; INDEX")
    static void p36_lostAheadOfAllElse() {
        int[][] wrong = {{3, 0, 0, 0, 1}, {0, 0, 3, 0, 1}, {3, 0, 3, 0, 0}, {3, -1, 0, 9, 0}, {0, 9, 3, 0, -1},
            {2, 0, 3, 0, 0}};
        for (int[] a : wrong) {
            found(SheetPromises::copying, COPY, NULL, 1, a);
        }
    }

    @Says("BAD: the SHEETS; NULL: s, t; STORE; INDEX")
    static void p36_badAheadOfLost() {
        int[][] wrong = {{3, 0, 4, 0, 0}, {3, 0, -1, 0, 0}, {4, 0, 3, 0, 0}, {-1, 0, 3, 0, 0}};
        for (int[] a : wrong) {
            refused(SheetPromises::copying, COPY, BAD, a);
        }
        bounds((x, a) -> x.copy(a[0], 0, a[1], 0, 1), BAD, new int[] {0, 0}, SHEET, SHEET);
    }

    // ---- 37

    @Says("as many as there are items and DAYS to 99: how many")
    static void p37_asManyAsItems() {
        TurningVillage x = windy("", 1, 3);
        x.sheet(0, 0, 4);
        due("from day 0", x.write(0, 0), 4);
        holds(x, 0, 0, 0, 1, 1, 2);
        x.sheet(1, 2, 60);
        due("sixty", x.write(40, 1), 60);
        due("the last of sixty", x.get(1, 2, 59), 2);
        x.sheet(2, 1, 0);
        due("none", x.write(0, 2), 0);
    }

    @Says("as many as there are items and DAYS to 99: how many")
    static void p37_asManyAsDays() {
        TurningVillage x = windy("", 1, 98, 99);
        fill(x, 0, 1, 71, 72, 73, 74);
        due("from day 97", x.write(97, 0), 3);
        holds(x, 0, 1, 1, 2, 3, 74);
        due("from day 99", x.write(99, 0), 1);
        holds(x, 0, 1, 3, 2, 3, 74);
        x.sheet(1, 2, 60);
        due("one less than sixty", x.write(41, 1), 59);
        due("not the last", x.get(1, 2, 59), 0);
        due("the last but one", x.get(1, 2, 58), 3);
    }

    @Says({"TURNS of DAYS from one on come to a SHEET from item 0 on", "a row of a FORM: 0 bytes, 1 shorts, 2 ints",
        "(the lowest bits that it has, with its sign; by write(), too): 1."})
    static void p37_ofEachForm() {
        for (int form = 0; form < 3; form++) {
            TurningVillage x = windy("", 51);
            x.set(2, 7);
            fill(x, 3, form, 9, 9, 9);
            due("three", x.write(49, 3), 3);
            holds(x, 3, form, 7, 7, 0);
        }
    }

    @Says({"as many as there are items and DAYS to 99: how many. BAD; NULL.", "1 NULL: the SHEET is LOST"})
    static void p37_ofALostOne() {
        found(Check::busy, WRITE, NULL, 1, 0, 3);
        found(Check::busy, WRITE, NULL, 1, 99, 3);
    }

    @Says("as many as there are items and DAYS to 99: how many. BAD; NULL.")
    static void p37_badAheadOfNull() {
        refused(Check::busy, WRITE, BAD, 100, 3);
        refused(Check::busy, WRITE, BAD, -1, 3);
        bounds(WRITE, BAD, new int[] {50, 0}, new int[] {0, 99}, SHEET);
    }
}
