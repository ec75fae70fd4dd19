/** Each promise by itself: ordinary inputs, the edges that the document names, and wrong inputs. */
public final class PromiseTest {
    private static final int NONE = TurningVillage.NONE, BAD = TurningVillage.BAD;
    private static final int NOT = TurningVillage.NOT, FULL = TurningVillage.FULL;
    private static final int NULL = -11, INDEX = -12, CAST = -13, STORE = -14, SIZE = -15;
    private static final int LEAST = Integer.MIN_VALUE;
    private static final long BAD_LONG = Long.MIN_VALUE + 2;

    private static int promise = 0;
    private static int wrong = 0;

    private static void due(String what, long got, long want) {
        if (got != want) {
            wrong++;
            System.out.println("promise " + promise + ": " + what + " answered " + got + ", due is " + want);
        }
    }

    private static TurningVillage land(String text) {
        TurningVillage x = new TurningVillage();
        typeAll(x, text);
        return x;
    }

    private static void typeAll(TurningVillage x, String text) {
        for (int i = 0; i < text.length(); i++) {
            x.type(text.charAt(i));
        }
    }

    private static void gales(TurningVillage x, int... days) {
        for (int day : days) {
            x.gale(day, 0, 0);
        }
    }

    public static void main(String[] args) {
        newObject();
        typeAndWipe();
        fault();
        placeAndSun();
        bridge();
        gale();
        read();
        takeBack();
        set();
        turnAndDoor();
        share();
        shineAndAhead();
        next();
        likely();
        soonAndCarried();
        meet();
        wishLivesJoy();
        swap();
        best();
        envy();
        reapedAndHistory();
        sureHistories();
        waitsAndDig();
        sheetAndLose();
        putAndGet();
        copy();
        write();
        count();
        digest();
        System.out.println(wrong == 0 ? "all promises hold" : wrong + " answers are not as due");
        if (wrong != 0) {
            System.exit(1);
        }
    }

    private static void newObject() {
        promise = 1;
        TurningVillage x = new TurningVillage();
        due("fault of an empty text", x.fault(), 0);
        int[] counts = {0, 0, 0, 0, 0, 999, 0, 8, 0};
        for (int what = 0; what < counts.length; what++) {
            due("count " + what, x.count(what), counts[what]);
        }
        for (int i = 0; i < 8; i++) {
            due("thing", x.place(i, 0), 0);
            due("path", x.place(i, 1), 1);
            due("sun", x.place(i, 2), 0);
            due("lives", x.lives(i), i);
            due("reaped", x.reaped(i, NONE), NONE);
        }
        for (int s = 0; s < 4; s++) {
            due("lost", x.lose(s), NULL);
        }
        due("wipe", x.wipe(), 0);
    }

    private static void typeAndWipe() {
        promise = 2;
        TurningVillage x = new TurningVillage();
        due("byte below 0", x.type(-1), BAD);
        due("byte above 255", x.type(256), BAD);
        due("least byte", x.type(0), 1);
        due("highest byte", x.type(255), 2);
        for (int i = 2; i < 60; i++) {
            due("byte", x.type('m'), i + 1);
        }
        due("61st byte", x.type('m'), FULL);
        due("bad ahead of full", x.type(256), BAD);
        due("bytes", x.count(2), 60);
        promise = 3;
        due("wipe", x.wipe(), 60);
        due("wipe again", x.wipe(), 0);
        x.sun(3, 7);
        typeAll(x, "mmmmmmmm;x1;b0311");
        due("fault, as 1 is not less than 1", x.fault(), 16);
        due("wipe of 17", x.wipe(), 17);
        typeAll(x, "mmmmmmmm;x1;b0310");
        due("thing", x.place(0, 0), 1);
        due("wipe of a good one", x.wipe(), 17);
        due("thing after wipe", x.place(0, 0), 0);
        due("path after wipe", x.place(1, 1), 1);
        due("bridges after wipe", x.count(3), 0);
        due("SUN stays", x.place(3, 2), 7);
        due("first byte again", x.type('f'), 1);
    }

    private static void fault() {
        promise = 4;
        faultOf("", 0);
        faultOf("m", 1);
        faultOf("mwsf.f.", 7);
        faultOf("mwsf.f.q", 7);
        faultOf("Mwsf.f.f", 0);
        faultOf("mw;f.f.f", 2);
        faultOf("mwsf.f.f", NONE);
        faultOf("mwsf.f.ff", 8);
        faultOf("mwsf.f.f;", 9);
        faultOf("mwsf.f.f;;", 9);
        faultOf("mwsf.f.f;y", 9);
        faultOf("mwsf.f.f;x", 10);
        faultOf("mwsf.f.f;x8", 10);
        faultOf("mwsf.f.f;xx", 10);
        faultOf("mwsf.f.f;x7", NONE);
        faultOf("mwsf.f.f;x7;x7", NONE);
        faultOf("mwsf.f.f;x7x", 11);
        faultOf("mwsf.f.f;b", 10);
        faultOf("mwsf.f.f;b8", 10);
        faultOf("mwsf.f.f;b7", 11);
        faultOf("mwsf.f.f;b77", 11);
        faultOf("mwsf.f.f;b78", 11);
        faultOf("mwsf.f.f;b70", 12);
        faultOf("mwsf.f.f;b700", 12);
        faultOf("mwsf.f.f;b709", 12);
        faultOf("mwsf.f.f;b708", 13);
        faultOf("mwsf.f.f;b7088", 13);
        faultOf("mwsf.f.f;b7087", NONE);
        faultOf("mwsf.f.f;b7010", NONE);
        faultOf("mwsf.f.f;b7011", 13);
        faultOf("mwsf.f.f;b70107", 14);
        String four = "mwsf.f.f;b0110;b0120;b0131;b0180";
        faultOf(four, NONE);
        faultOf(four + ";", 33);
        faultOf(four + ";b", 33);
        faultOf(four + ";b0110", 33);
        faultOf(four + ";x0", NONE);
        TurningVillage x = land("mwsf.f.f;x1;b0110");
        due("bridge", x.bridge(0, 1, 0), 1);
        x.type(';');
        due("fault by one byte more", x.fault(), 18);
        due("no thing", x.place(1, 0), 0);
        due("path open", x.place(1, 1), 1);
        due("no bridge", x.bridge(0, 1, 0), 0);
        due("no bridges", x.count(3), 0);
        due("no closed paths", x.count(4), 0);
        typeAll(x, "x2");
        due("no fault any more", x.fault(), NONE);
        due("closed", x.place(1, 1), 0);
        due("closed paths", x.count(4), 2);
        TurningVillage long60 = land("mwsf.f.f" + ";x0".repeat(17) + ";");
        due("fault at the end of 60", long60.fault(), 60);
    }

    private static void faultOf(String text, int want) {
        due("fault of " + text, land(text).fault(), want);
    }

    private static void placeAndSun() {
        promise = 5;
        TurningVillage x = land(".mwsf.mw;x0;x7");
        int[] things = {0, 1, 2, 3, 4, 0, 1, 2};
        for (int i = 0; i < 8; i++) {
            due("thing", x.place(i, 0), things[i]);
            due("path", x.place(i, 1), i == 0 || i == 7 ? 0 : 1);
        }
        due("place below", x.place(-1, 0), BAD);
        due("place above", x.place(8, 0), BAD);
        due("what below", x.place(0, -1), BAD);
        due("what above", x.place(0, 3), BAD);
        promise = 11;
        due("sun", x.sun(2, 9), 0);
        due("sun again", x.sun(2, 4), 9);
        due("sun told", x.place(2, 2), 4);
        due("sun below", x.sun(2, -1), BAD);
        due("sun above", x.sun(2, 10), BAD);
        due("place below", x.sun(-1, 1), BAD);
        due("place above", x.sun(8, 1), BAD);
        due("sun stays", x.place(2, 2), 4);
        due("sun of the last place", x.sun(7, 6), 0);
        due("sun of the last place told", x.place(7, 2), 6);
    }

    private static void bridge() {
        promise = 6;
        TurningVillage x = land("........;b0432;b1710");
        gales(x, 1, 2, 3, 4, 5);
        for (int day = 0; day < 6; day++) {
            due("by modulo 3", x.bridge(0, 4, day), day % 3 == 2 ? 1 : 0);
            due("the other way", x.bridge(4, 0, day), day % 3 == 2 ? 1 : 0);
            due("always", x.bridge(7, 1, day), 1);
            due("none", x.bridge(0, 1, day), 0);
        }
        due("with itself", x.bridge(3, 3, 0), BAD);
        due("a below", x.bridge(-1, 3, 0), BAD);
        due("a above", x.bridge(8, 3, 0), BAD);
        due("b below", x.bridge(3, -1, 0), BAD);
        due("b above", x.bridge(3, 8, 0), BAD);
        due("day below", x.bridge(0, 4, -1), BAD);
        due("day above", x.bridge(0, 4, 100), BAD);
        TurningVillage twice = land("........;b0481;b0483");
        gales(twice, 1, 2, 3);
        due("the first of two", twice.bridge(0, 4, 1), 1);
        due("neither of two", twice.bridge(0, 4, 2), 0);
        due("the second of two", twice.bridge(0, 4, 3), 1);
        TurningVillage four = land("........;b0110;b1210;b2310;b7410");
        due("the fourth", four.bridge(7, 4, 0), 1);
        due("the fourth, the other way", four.bridge(4, 7, 0), 1);
    }

    private static void gale() {
        promise = 7;
        TurningVillage x = new TurningVillage();
        due("day below", x.gale(-1, 0, 0), BAD);
        due("day above", x.gale(100, 0, 0), BAD);
        due("from below", x.gale(0, -1, 0), BAD);
        due("from above", x.gale(0, 2, 0), BAD);
        due("time below", x.gale(0, 0, -1), BAD);
        due("time above", x.gale(0, 0, 1000), BAD);
        due("first", x.gale(99, 1, 5), 0);
        due("time less", x.gale(0, 0, 4), BAD);
        due("time like", x.gale(0, 0, 5), 1);
        due("taken back", x.takeBack(0, 8), 1);
        due("less than a taking back", x.gale(0, 0, 7), BAD);
        for (int i = 2; i < 60; i++) {
            due("number", x.gale(0, 0, 999), i);
        }
        due("61st", x.gale(0, 0, 999), FULL);
        due("bad ahead of full", x.gale(100, 0, 999), BAD);
        due("gales", x.count(0), 60);
    }

    private static void read() {
        promise = 8;
        TurningVillage x = new TurningVillage();
        due("sheet below", x.read(-1, 0), BAD);
        due("sheet above", x.read(4, 0), BAD);
        due("lost", x.read(0, 0), NULL);
        due("finding", x.count(8), 1);
        due("bad ahead of null", x.read(0, 1000), BAD);
        x.sheet(0, 0, 5);
        int[] days = {3, 3, 99, 100, 4};
        for (int i = 0; i < days.length; i++) {
            x.put(0, 0, i, days[i]);
        }
        x.gale(50, 1, 6);
        due("time less", x.read(0, 5), BAD);
        due("up to the first that is refused", x.read(0, 7), 3);
        due("gales", x.count(0), 4);
        due("turn", x.turn(3), 2);
        due("turn at the end", x.turn(99), 3);
        due("time has gone on", x.gale(0, 0, 6), BAD);
        x.sheet(1, 2, 2);
        x.put(1, 2, 0, -1);
        due("none taken", x.read(1, 900), 0);
        due("time has not gone on", x.gale(0, 1, 7), 4);
        x.sheet(2, 1, 60);
        due("up to 60", x.read(2, 7), 55);
        due("none when full", x.read(2, 7), 0);
        due("gales", x.count(0), 60);
        x.sheet(3, 1, 0);
        due("an empty sheet", x.read(3, 7), 0);
        TurningVillage all = new TurningVillage();
        all.sheet(0, 2, 60);
        due("60 at once", all.read(0, 999), 60);
        due("all of them count", all.count(1), 60);
        due("all of them turn", all.turn(0), 60 % 8);
    }

    private static void takeBack() {
        promise = 9;
        TurningVillage x = new TurningVillage();
        due("no gale", x.takeBack(0, 0), BAD);
        x.gale(10, 0, 10);
        x.gale(10, 0, 20);
        due("gale below", x.takeBack(-1, 20), BAD);
        due("gale above", x.takeBack(2, 20), BAD);
        due("time less", x.takeBack(0, 19), BAD);
        due("time above", x.takeBack(0, 1000), BAD);
        due("taken back", x.takeBack(0, 30), 1);
        due("already", x.takeBack(0, 30), NOT);
        due("bad ahead of not", x.takeBack(0, 29), BAD);
        due("turn", x.turn(10), 1);
        int[][] asOf = {{9, 0}, {10, 1}, {19, 1}, {20, 2}, {29, 2}, {30, 1}, {999, 1}};
        for (int[] pair : asOf) {
            x.set(0, pair[0]);
            due("as of " + pair[0], x.turn(10), pair[1]);
            due("count as of " + pair[0], x.count(1), pair[1]);
        }
        x.set(0, 0);
        due("already, though as of earlier", x.takeBack(0, 40), NOT);
        due("gales stay", x.count(0), 2);
        due("the last one", x.takeBack(1, 40), 1);
    }

    private static void set() {
        promise = 10;
        TurningVillage x = new TurningVillage();
        due("as of", x.set(0, 0), 999);
        due("as of again", x.set(0, 999), 0);
        due("wing", x.set(1, 7), 0);
        due("wing again", x.set(1, 3), 7);
        due("begin", x.set(2, 7), 0);
        due("begin again", x.set(2, 2), 7);
        due("what below", x.set(-1, 0), -5);
        due("what above", x.set(3, 0), -5);
        due("as of below", x.set(0, -1), -5);
        due("as of above", x.set(0, 1000), -5);
        due("wing below", x.set(1, -1), -5);
        due("wing above", x.set(1, 8), -5);
        due("begin below", x.set(2, -1), -5);
        due("begin above", x.set(2, 8), -5);
        due("as of stays", x.count(5), 999);
        due("wing stays", x.count(6), 3);
        due("begin stays", x.turn(0), 2);
    }

    private static void turnAndDoor() {
        promise = 12;
        TurningVillage x = land(".mwsf.mw");
        x.set(2, 6);
        x.set(1, 5);
        x.gale(10, 0, 0);
        x.gale(20, 1, 0);
        x.gale(5, 0, 0);
        int[][] turns = {{0, 6}, {4, 6}, {5, 7}, {9, 7}, {10, 0}, {19, 0}, {20, 5}, {99, 5}};
        for (int[] pair : turns) {
            due("turn of " + pair[0], x.turn(pair[0]), pair[1]);
        }
        due("day below", x.turn(-1), BAD);
        due("day above", x.turn(100), BAD);
        promise = 13;
        x.sun(1, 8);
        due("place", x.door(4, 20, 0), 1);
        due("thing", x.door(4, 20, 1), 1);
        due("sun", x.door(4, 20, 2), 8);
        due("place of row 7", x.door(7, 0, 0), 5);
        due("row below", x.door(-1, 0, 0), BAD);
        due("row above", x.door(8, 0, 0), BAD);
        due("day below", x.door(0, -1, 0), BAD);
        due("day above", x.door(0, 100, 0), BAD);
        due("what below", x.door(0, 0, -1), BAD);
        due("what above", x.door(0, 0, 3), BAD);
    }

    private static void share() {
        promise = 14;
        TurningVillage x = land("m.......");
        gales(x, 6, 9);
        due("6 of 10 above", x.share(0, 1, 0, 9, 0), 3);
        due("6 of 10 below", x.share(0, 1, 0, 9, 1), 5);
        due("3 of 10 above", x.share(7, 1, 0, 9, 0), 3);
        due("3 of 10 below", x.share(7, 1, 0, 9, 1), 10);
        due("none above", x.share(1, 1, 0, 9, 0), 0);
        due("none below", x.share(1, 1, 0, 9, 1), 1);
        due("all above", x.share(0, 1, 0, 5, 0), 1);
        due("all below", x.share(0, 1, 0, 5, 1), 1);
        due("91 of 100 above", x.share(6, 1, 0, 99, 0), 91);
        due("91 of 100 below", x.share(6, 1, 0, 99, 1), 100);
        due("one day", x.share(7, 1, 6, 6, 0), 1);
        x.set(2, 7);
        due("at turn 7", x.share(1, 1, 0, 5, 0), 1);
        due("row below", x.share(-1, 1, 0, 9, 0), BAD_LONG);
        due("row above", x.share(8, 1, 0, 9, 0), BAD_LONG);
        due("thing below", x.share(0, -1, 0, 9, 0), BAD_LONG);
        due("thing above", x.share(0, 5, 0, 9, 0), BAD_LONG);
        due("from below", x.share(0, 1, -1, 9, 0), BAD_LONG);
        due("to less", x.share(0, 1, 9, 8, 0), BAD_LONG);
        due("to above", x.share(0, 1, 0, 100, 0), BAD_LONG);
        due("what below", x.share(0, 1, 0, 9, -1), BAD_LONG);
        due("what above", x.share(0, 1, 0, 9, 2), BAD_LONG);
    }

    private static void shineAndAhead() {
        promise = 15;
        TurningVillage x = land("m...m...");
        gales(x, 6, 9);
        x.sun(0, 2);
        x.sun(1, 5);
        due("by two places", x.shine(0, 0, 8), 6 * 2 + 3 * 5);
        due("one day", x.shine(0, 6, 6), 5);
        x.set(2, 7);
        due("at turn 7", x.shine(2, 0, 5), 30);
        x.set(2, 0);
        due("row below", x.shine(-1, 0, 9), BAD);
        due("row above", x.shine(8, 0, 9), BAD);
        due("to less", x.shine(0, 9, 8), BAD);
        due("from below", x.shine(0, -1, 8), BAD);
        due("to above", x.shine(0, 0, 100), BAD);
        promise = 16;
        due("of like ones the least", x.ahead(1, 0, 8, 0), 0);
        due("by how many", x.ahead(1, 0, 8, 1), 6);
        due("later", x.ahead(1, 6, 8, 0), 3);
        due("of the rest", x.ahead(1, 6, 99, 0), 2);
        due("of the rest by how many", x.ahead(1, 6, 99, 1), 91);
        due("of none", x.ahead(4, 0, 99, 0), 0);
        due("of none by how many", x.ahead(4, 0, 99, 1), 0);
        due("of nothing", x.ahead(0, 0, 8, 0), 1);
        TurningVillage last = land(".......m");
        due("the last row", last.ahead(1, 0, 9, 0), 7);
        due("the last row has the fewest", last.ahead(0, 0, 9, 1), 10);
        due("thing below", x.ahead(-1, 0, 8, 0), BAD);
        due("thing above", x.ahead(5, 0, 8, 0), BAD);
        due("to less", x.ahead(1, 8, 7, 0), BAD);
        due("from below", x.ahead(1, -1, 7, 0), BAD);
        due("to above", x.ahead(1, 0, 100, 0), BAD);
        due("what below", x.ahead(1, 0, 8, -1), BAD);
        due("what above", x.ahead(1, 0, 8, 2), BAD);
    }

    private static void next() {
        promise = 17;
        TurningVillage x = land("mw......");
        gales(x, 10, 99);
        due("at once", x.next(0, 1, 2, 3), 3);
        due("last day of it", x.next(0, 1, 2, 9), 9);
        due("gone", x.next(0, 1, 2, 10), NONE);
        due("row 7 and 0", x.next(7, 1, 2, 0), 10);
        due("on the last day", x.next(6, 1, 2, 0), 99);
        due("not the other way", x.next(0, 2, 1, 0), NONE);
        due("one thing twice", x.next(2, 0, 0, 0), 0);
        due("never", x.next(3, 1, 2, 0), NONE);
        x.set(2, 7);
        due("at turn 7", x.next(1, 1, 2, 9), 9);
        due("at turn 7 no more", x.next(1, 1, 2, 10), NONE);
        due("row below", x.next(-1, 1, 2, 0), BAD);
        due("row above", x.next(8, 1, 2, 0), BAD);
        due("thing below", x.next(0, -1, 2, 0), BAD);
        due("thing above", x.next(0, 5, 2, 0), BAD);
        due("other below", x.next(0, 1, -1, 0), BAD);
        due("other above", x.next(0, 1, 5, 0), BAD);
        due("day below", x.next(0, 1, 2, -1), BAD);
        due("day above", x.next(0, 1, 2, 100), BAD);
    }

    private static void likelyOf(TurningVillage x, int row, int n, int g, long above, long below) {
        String what = "likely of row " + row + ", " + n + " days, " + g + ", ";
        due(what + "above", x.likely(row, 1, 2, 10, n, g, 0), above);
        due(what + "below", x.likely(row, 1, 2, 10, n, g, 1), below);
    }

    private static void likely() {
        promise = 18;
        TurningVillage x = land("mw......");
        gales(x, 50);
        likelyOf(x, 0, 0, 8, 0, 1);
        likelyOf(x, 0, 1, 4, 3, 4);
        likelyOf(x, 0, 3, 4, 3, 4);
        likelyOf(x, 0, 5, 16, 0, 1);
        likelyOf(x, 0, 8, 16, 1, 1);
        likelyOf(x, 0, 12, 0, 1, 1);
        likelyOf(x, 7, 1, 4, 1, 4);
        likelyOf(x, 7, 2, 4, 7, 16);
        likelyOf(x, 7, 12, 1, 281474976710656L - 129746337890625L, 281474976710656L);
        likelyOf(x, 6, 1, 8, 0, 1);
        likelyOf(x, 6, 2, 8, 1, 4);
        likelyOf(x, 7, 12, 0, 0, 1);
        due("of the last day", x.likely(6, 1, 2, 99, 12, 16, 0), 1);
        x.set(2, 7);
        likelyOf(x, 1, 1, 4, 3, 4);
        likelyOf(x, 0, 1, 4, 1, 4);
        x.set(2, 6);
        likelyOf(x, 1, 2, 4, 7, 16);
        likelyOf(x, 0, 2, 4, 1, 16);
        due("g above", x.likely(7, 1, 2, 0, 1, 17, 0), BAD_LONG);
        due("row below", x.likely(-1, 1, 2, 0, 1, 4, 0), BAD_LONG);
        due("row above", x.likely(8, 1, 2, 0, 1, 4, 0), BAD_LONG);
        due("thing below", x.likely(0, -1, 2, 0, 1, 4, 0), BAD_LONG);
        due("thing above", x.likely(0, 5, 2, 0, 1, 4, 0), BAD_LONG);
        due("other below", x.likely(0, 1, -1, 0, 1, 4, 0), BAD_LONG);
        due("other above", x.likely(0, 1, 5, 0, 1, 4, 0), BAD_LONG);
        due("day below", x.likely(0, 1, 2, -1, 1, 4, 0), BAD_LONG);
        due("day above", x.likely(0, 1, 2, 100, 1, 4, 0), BAD_LONG);
        due("n below", x.likely(0, 1, 2, 0, -1, 4, 0), BAD_LONG);
        due("n above", x.likely(0, 1, 2, 0, 13, 4, 0), BAD_LONG);
        due("g below", x.likely(0, 1, 2, 0, 1, -1, 0), BAD_LONG);
        due("g above", x.likely(0, 1, 2, 0, 1, 17, 0), BAD_LONG);
        due("what below", x.likely(0, 1, 2, 0, 1, 4, -1), BAD_LONG);
        due("what above", x.likely(0, 1, 2, 0, 1, 4, 2), BAD_LONG);
    }

    private static void way(TurningVillage x, int row, int place, int day, int soon, int carried) {
        promise = 19;
        due("soon " + row + " to " + place + " from " + day, x.soon(row, place, day), soon);
        promise = 20;
        due("carried " + row + " to " + place + " from " + day, x.carried(row, place, day), carried);
    }

    private static void soonAndCarried() {
        TurningVillage x = land("........");
        way(x, 0, 0, 0, 0, 1);
        way(x, 0, 7, 0, 1, 2);
        way(x, 0, 4, 0, 4, 5);
        way(x, 7, 0, 50, 51, 2);
        way(x, 3, 3, 99, 99, 1);
        way(x, 3, 4, 99, NONE, NONE);
        way(x, 3, 4, 98, 99, 2);
        gales(x, 1);
        way(x, 0, 1, 0, 1, 1);
        way(x, 0, 2, 0, 1, 2);
        TurningVillage shut = land("........;x0;x1;x2;x3;x4;x5;x6;x7;b0430");
        way(shut, 0, 4, 0, 1, 2);
        way(shut, 0, 5, 0, 3, 4);
        way(shut, 1, 2, 0, 1, 2);
        gales(shut, 1);
        way(shut, 0, 4, 0, 3, 4);
        TurningVillage swinging = land("........;b0431");
        way(swinging, 0, 4, 0, 4, 5);
        gales(swinging, 2);
        way(swinging, 0, 4, 0, 2, 2);
        TurningVillage fourth = land("........;b0110;b1210;b2310;b0410");
        way(fourth, 0, 4, 0, 1, 2);
        TurningVillage paths = land("........;x0");
        gales(paths, 1, 1, 2, 2, 3, 3, 4, 4);
        // From PLACE 1 back to 0 the PATH is closed, and the raft turns away.
        way(paths, 7, 6, 0, 1, 2);
        way(paths, 1, 0, 0, 3, 2);
        wrongWays(x);
    }

    private static void wrongWays(TurningVillage x) {
        int[][] wrongOnes = {{-1, 0, 0}, {8, 0, 0}, {0, -1, 0}, {0, 8, 0}, {0, 0, -1}, {0, 0, 100}};
        for (int[] w : wrongOnes) {
            way(x, w[0], w[1], w[2], BAD, BAD);
        }
    }

    private static void meet() {
        promise = 21;
        TurningVillage x = land("........");
        due("neighbours", x.meet(0, 1, 0, 0), 1);
        due("neighbours where", x.meet(0, 1, 0, 1), 0);
        due("over there", x.meet(2, 6, 5, 0), 7);
        due("over there where, the least", x.meet(2, 6, 5, 1), 0);
        due("round", x.meet(6, 0, 0, 1), 7);
        due("too late", x.meet(2, 6, 98, 0), NONE);
        due("too late where", x.meet(2, 6, 98, 1), NONE);
        due("just in time", x.meet(2, 6, 97, 0), 99);
        TurningVillage bridged = land("........;b2610");
        due("by a bridge", bridged.meet(2, 6, 5, 0), 6);
        due("by a bridge where", bridged.meet(2, 6, 5, 1), 2);
        due("the last row", x.meet(7, 6, 0, 1), 6);
        due("the last row first", x.meet(6, 7, 0, 1), 6);
        due("one row with itself", x.meet(3, 3, 0, 0), BAD);
        due("a below", x.meet(-1, 3, 0, 0), BAD);
        due("a above", x.meet(8, 3, 0, 0), BAD);
        due("b below", x.meet(3, -1, 0, 0), BAD);
        due("b above", x.meet(3, 8, 0, 0), BAD);
        due("day below", x.meet(3, 4, -1, 0), BAD);
        due("day above", x.meet(3, 4, 100, 0), BAD);
        due("what below", x.meet(3, 4, 0, -1), BAD);
        due("what above", x.meet(3, 4, 0, 2), BAD);
    }

    private static void wishLivesJoy() {
        promise = 22;
        TurningVillage x = land("mw......");
        gales(x, 4);
        due("wish", x.wish(7, 1, 9), 0);
        due("wish again", x.wish(7, 1, 3), 9);
        due("of another thing", x.wish(7, 2, 5), 0);
        due("of another tenant", x.wish(6, 1, 1), 0);
        due("tenant below", x.wish(-1, 1, 1), BAD);
        due("tenant above", x.wish(8, 1, 1), BAD);
        due("thing below", x.wish(0, -1, 1), BAD);
        due("thing above", x.wish(0, 5, 1), BAD);
        due("wish below", x.wish(0, 1, -1), BAD);
        due("wish above", x.wish(0, 1, 10), BAD);
        promise = 23;
        due("tenant below", x.lives(-1), BAD);
        due("tenant above", x.lives(8), BAD);
        due("last one", x.lives(7), 7);
        promise = 24;
        due("by both things", x.joy(7, 0, 0, 9), 4 * 3 + 6 * 5);
        due("one day", x.joy(7, 0, 3, 3), 3);
        due("another row", x.joy(7, 7, 0, 9), 6 * 3);
        due("without wishes", x.joy(0, 0, 0, 9), 0);
        x.wish(0, 0, 1);
        due("for nothing", x.joy(0, 1, 0, 9), 6);
        x.set(2, 7);
        due("at turn 7", x.joy(7, 1, 0, 3), 12);
        due("tenant below", x.joy(-1, 0, 0, 9), BAD);
        due("tenant above", x.joy(8, 0, 0, 9), BAD);
        due("row below", x.joy(7, -1, 0, 9), BAD);
        due("row above", x.joy(7, 8, 0, 9), BAD);
        due("to less", x.joy(7, 0, 9, 8), BAD);
        due("from below", x.joy(7, 0, -1, 8), BAD);
        due("to above", x.joy(7, 0, 0, 100), BAD);
    }

    private static void swap() {
        promise = 25;
        TurningVillage x = land("mws.....");
        x.wish(3, 1, 5);
        due("the first pair that would", x.swap(0, 9), 1);
        due("tenant 0", x.lives(0), 3);
        due("tenant 3", x.lives(3), 0);
        due("others stay", x.count(7), 6);
        due("no more", x.swap(0, 9), 0);
        x.wish(4, 1, 9);
        due("tenant 3 would have less", x.swap(0, 9), 0);
        x.wish(3, 2, 5);
        // 3 has like JOY in ROW 1, but nobody there wants ROW 0; 4 and 3 do not fit, as ROW 4 is nothing.
        due("not with one who has less", x.swap(0, 9), 0);
        x.wish(1, 1, 2);
        // 1 and 3 change, then 3 in ROW 1 and 4 do not, 1 in ROW 0 keeps it.
        due("like for one, more for the other", x.swap(0, 9), 1);
        due("tenant 1", x.lives(1), 0);
        due("tenant 3 again", x.lives(3), 1);
        TurningVillage chain = land("mws.....");
        chain.wish(1, 1, 1);
        chain.wish(2, 2, 1);
        chain.wish(0, 3, 1);
        // 0 and 1 change; then 0 in ROW 1 and 2 in ROW 2.
        due("again from the beginning", chain.swap(0, 0), 2);
        due("chain 0", chain.lives(0), 2);
        due("chain 1", chain.lives(1), 0);
        due("chain 2", chain.lives(2), 1);
        TurningVillage ends = land("......mw");
        ends.wish(7, 1, 1);
        due("the last two", ends.swap(0, 0), 1);
        due("tenant 6", ends.lives(6), 7);
        due("tenant 7", ends.lives(7), 6);
        ends.wish(0, 2, 1);
        due("the first and one far away", ends.swap(0, 0), 1);
        due("the far row", ends.lives(0), 7);
        due("to less", x.swap(9, 8), BAD);
        due("from below", x.swap(-1, 8), BAD);
        due("to above", x.swap(0, 100), BAD);
    }

    private static void best() {
        promise = 26;
        TurningVillage x = land("mw......");
        due("all alike", x.best(5, 0, 99), 5);
        x.wish(0, 1, 5);
        x.wish(0, 2, 4);
        x.wish(1, 1, 9);
        due("joy of all", x.best(NONE, 0, 9), 130);
        int[] rows = {1, 0, 2, 3, 4, 5, 6, 7};
        for (int tenant = 0; tenant < 8; tenant++) {
            due("row of " + tenant, x.best(tenant, 0, 9), rows[tenant]);
        }
        due("nobody has moved", x.count(7), 8);
        TurningVillage like = land(".m.m....");
        like.wish(2, 1, 1);
        due("of like ones the least: 0", like.best(0, 0, 0), 0);
        due("of like ones the least: 1", like.best(1, 0, 0), 1);
        due("of like ones the least: 2", like.best(2, 0, 0), 3);
        due("of like ones the least: 3", like.best(3, 0, 0), 2);
        TurningVillage far = land(".......m");
        far.wish(0, 1, 9);
        due("the last row", far.best(0, 0, 0), 7);
        due("joy of the last row", far.best(NONE, 0, 0), 9);
        TurningVillage near = land("m.......");
        near.wish(7, 1, 9);
        due("the first row for the last one", near.best(7, 0, 0), 0);
        due("tenant below", x.best(-2, 0, 9), BAD);
        due("tenant above", x.best(8, 0, 9), BAD);
        due("to less", x.best(0, 9, 8), BAD);
        due("from below", x.best(0, -1, 8), BAD);
        due("to above", x.best(0, 0, 100), BAD);
    }

    private static void envy() {
        promise = 27;
        TurningVillage x = land("mw......");
        due("without wishes", x.envy(0, 99), 0);
        x.wish(0, 1, 9);
        due("in the best row", x.envy(0, 9), 0);
        x.wish(1, 1, 9);
        x.wish(2, 2, 1);
        due("two", x.envy(0, 9), 2);
        gales(x, 5);
        due("by days", x.envy(5, 9), 3);
        TurningVillage last = land("m......m");
        last.wish(6, 1, 9);
        last.wish(7, 0, 9);
        due("the last tenants", last.envy(0, 9), 2);
        due("nobody has moved", x.count(7), 8);
        due("to less", x.envy(9, 8), BAD);
        due("from below", x.envy(-1, 8), BAD);
        due("to above", x.envy(0, 100), BAD);
    }

    private static void reapedAndHistory() {
        promise = 28;
        TurningVillage x = land("f.......");
        due("reaped", x.reaped(0, 12), NONE);
        due("reaped again", x.reaped(0, NONE), 12);
        due("not known again", x.reaped(0, 0), NONE);
        due("row below", x.reaped(-1, 0), -5);
        due("row above", x.reaped(8, 0), -5);
        due("below none", x.reaped(0, -2), -5);
        due("above", x.reaped(0, 13), -5);
        due("it stays", x.reaped(0, 1), 0);
        promise = 29;
        // ROW 0 had the field on one of three DAYS: a gale on the second one, whatever the third had.
        due("how many", x.history(0, 3, 0), 2);
        due("the first", x.history(0, 3, 1), 2);
        due("with", x.history(0, 3, 2), 2);
        due("without", x.history(0, 3, 3), 1);
        due("of no days", x.history(0, 0, 0), 0);
        x.reaped(0, 0);
        due("of no days, none reaped", x.history(0, 0, 0), 1);
        due("of no days, the first", x.history(99, 0, 1), 0);
        due("of no days, with", x.history(99, 0, 2), 0);
        due("of no days, without", x.history(99, 0, 3), 0);
        // A gale on the first DAY, and 6 at most on the other 11: with 8 the field comes back.
        due("up to day 99", x.history(88, 12, 0), 1024 + 462);
        due("beyond day 99", x.history(89, 12, 0), BAD);
        due("beyond day 99 by one", x.history(99, 2, 0), BAD);
        due("day below", x.history(-1, 0, 0), BAD);
        due("day above", x.history(100, 0, 0), BAD);
        due("n below", x.history(0, -1, 0), BAD);
        due("n above", x.history(0, 13, 0), BAD);
        due("what below", x.history(0, 3, -1), BAD);
        due("what above", x.history(0, 3, 4), BAD);
    }

    private static void sureHistories() {
        promise = 29;
        TurningVillage x = land("f.......");
        x.reaped(0, 4);
        due("none fits", x.history(10, 3, 0), 0);
        due("no first", x.history(10, 3, 1), NONE);
        due("not with", x.history(10, 3, 2), NOT);
        due("not without", x.history(10, 3, 3), NOT);
        due("bad ahead of not", x.history(100, 3, 2), BAD);
        x.reaped(0, 3);
        due("sure without all", x.history(10, 3, 3), 7);
        // Gales of these DAYS are forgotten, the one on the DAY ahead is not.
        gales(x, 10, 11);
        due("forgotten", x.history(10, 3, 3), 7);
        due("not forgotten", x.history(11, 3, 0), 0);
        x.reaped(0, NONE);
        x.reaped(7, 3);
        due("of the turn ahead", x.history(11, 3, 3), 7);
        x.set(2, 7);
        x.reaped(7, NONE);
        x.reaped(1, 3);
        due("of day 0: begin", x.history(0, 3, 3), 7);
        x.gale(0, 0, 0);
        due("of day 0: begin, not its turn", x.history(0, 3, 3), 7);
    }

    private static void waitsAndDig() {
        promise = 30;
        TurningVillage x = land("........");
        due("never", x.waits(0, 0), NONE);
        gales(x, 10, 20, 30, 40, 50, 60, 70);
        due("the last row", x.waits(0, 0), 70);
        due("from a day on", x.waits(0, 9), 61);
        due("one row too late", x.waits(0, 10), NONE);
        due("place below", x.waits(-1, 0), BAD);
        due("place above", x.waits(8, 0), BAD);
        due("day below", x.waits(0, -1), BAD);
        due("day above", x.waits(0, 100), BAD);
        promise = 31;
        due("of like ones the first", x.dig(0, 99), 0);
        due("as long as told", x.dig(0, 70), 0);
        due("longer than told", x.dig(0, 69), NONE);
        due("too late for some row", x.dig(10, 99), NONE);
        x.wipe();
        typeAll(x, "w.......");
        promise = 30;
        due("a well is there", x.waits(0, 0), 70);
        due("two wells", x.waits(4, 0), 30);
        due("beside", x.waits(1, 0), 60);
        promise = 31;
        due("the least wait", x.dig(0, 99), 4);
        due("day below", x.dig(-1, 0), BAD);
        due("day above", x.dig(100, 0), BAD);
        due("most below", x.dig(0, -1), BAD);
        due("most above", x.dig(0, 100), BAD);
        TurningVillage wells = land("wwwwwwww");
        due("at once", wells.dig(99, 0), 0);
        TurningVillage late = land("...w....");
        gales(late, 10, 20, 30, 40, 50, 60, 70);
        due("the last place", late.dig(0, 30), 7);
        promise = 30;
        due("at once", wells.waits(3, 99), 0);
    }

    private static void sheetAndLose() {
        promise = 32;
        TurningVillage x = new TurningVillage();
        due("empty", x.sheet(0, 0, 0), 0);
        due("most", x.sheet(0, 1, 60), 60);
        x.put(0, 1, 59, 5);
        due("a new one", x.sheet(0, 1, 60), 60);
        due("items are 0", x.get(0, 1, 59), 0);
        due("sheet below", x.sheet(-1, 0, 1), BAD);
        due("sheet above", x.sheet(4, 0, 1), BAD);
        due("form below", x.sheet(0, -1, 1), BAD);
        due("form above", x.sheet(0, 3, 1), BAD);
        due("size above", x.sheet(0, 0, 61), BAD);
        due("no finding yet", x.count(8), 0);
        due("size below", x.sheet(0, 0, -1), SIZE);
        due("finding", x.count(8), 5);
        due("bad ahead of size", x.sheet(4, 0, -1), BAD);
        promise = 33;
        due("it had", x.lose(0), 60);
        due("lost", x.lose(0), NULL);
        due("finding", x.count(8), 1);
        due("sheet below", x.lose(-1), BAD);
        due("sheet above", x.lose(4), BAD);
        due("others", x.lose(3), NULL);
    }

    private static void putAndGet() {
        TurningVillage x = new TurningVillage();
        x.sheet(0, 0, 2);
        x.sheet(1, 1, 2);
        x.sheet(2, 2, 2);
        int[][] kept = {{127, 127, 127}, {128, -128, 128}, {-129, 127, -129}, {0x18000, 0, -32768},
            {40000, 64, -25536}, {LEAST, 0, 0}};
        for (int[] k : kept) {
            for (int form = 0; form < 3; form++) {
                promise = 34;
                due("put", x.put(form, form, 1, k[0]), 1);
                promise = 35;
                due("get of " + k[0], x.get(form, form, 1), form == 2 ? k[0] : k[1 + form]);
                due("beside", x.get(form, form, 0), 0);
            }
        }
        int[][] wrongOnes = {{-1, 0, 0, BAD}, {4, 0, 0, BAD}, {0, -1, 0, BAD}, {0, 3, 0, BAD}, {3, 3, 9, BAD},
            {3, 0, 9, NULL}, {0, 1, 9, CAST}, {0, 0, 2, INDEX}, {0, 0, -1, INDEX}, {2, 2, LEAST, INDEX}};
        for (int[] w : wrongOnes) {
            int number = w[3] == BAD ? 5 : -10 - w[3];
            promise = 34;
            x.sheet(0, 0, -1);
            due("put", x.put(w[0], w[1], w[2], 1), w[3]);
            due("finding of put", x.count(8), number);
            promise = 35;
            x.sheet(0, 0, -1);
            due("get", x.get(w[0], w[1], w[2]), LEAST);
            due("finding of get", x.count(8), number);
        }
        x.lose(0);
        due("of a lost one", x.get(0, 0, 0), LEAST);
    }

    private static void copy() {
        promise = 36;
        TurningVillage x = new TurningVillage();
        x.sheet(0, 2, 5);
        x.sheet(1, 2, 3);
        x.sheet(2, 1, 5);
        for (int i = 0; i < 5; i++) {
            x.put(0, 2, i, 10 + i);
        }
        due("to another", x.copy(0, 3, 1, 1, 2), 1);
        due("ahead of it", x.get(1, 2, 0), 0);
        due("first", x.get(1, 2, 1), 13);
        due("second", x.get(1, 2, 2), 14);
        due("onto itself", x.copy(0, 0, 0, 1, 4), 1);
        for (int i = 1; i < 5; i++) {
            due("as they were", x.get(0, 2, i), 9 + i);
        }
        due("back", x.copy(0, 1, 0, 0, 4), 1);
        for (int i = 0; i < 4; i++) {
            due("as they were, back", x.get(0, 2, i), 10 + i);
        }
        due("none at the end", x.copy(0, 5, 1, 3, 0), 1);
        int[][] wrongOnes = {{-1, 0, 0, 0, 0, BAD}, {4, 0, 0, 0, 0, BAD}, {0, 0, -1, 0, 0, BAD},
            {0, 0, 4, 0, 0, BAD}, {3, 0, 4, 0, 0, BAD}, {3, 0, 0, 9, 0, NULL}, {0, 0, 3, 9, 0, NULL},
            {0, 9, 2, 0, 0, STORE}, {0, -1, 1, 0, 1, INDEX}, {0, 0, 1, -1, 1, INDEX}, {0, 0, 1, 0, -1, INDEX},
            {0, 6, 1, 0, 0, INDEX}, {0, 0, 1, 4, 0, INDEX}, {0, 4, 1, 0, 2, INDEX}, {0, 0, 1, 2, 2, INDEX},
            {0, 1, 1, 1, Integer.MAX_VALUE, INDEX}, {0, Integer.MAX_VALUE, 1, 0, 1, INDEX},
            {0, 0, 1, Integer.MAX_VALUE, Integer.MAX_VALUE, INDEX}, {0, LEAST, 1, 0, 0, INDEX}};
        for (int[] w : wrongOnes) {
            x.lose(3);
            due("copy", x.copy(w[0], w[1], w[2], w[3], w[4]), w[5]);
            due("finding", x.count(8), w[5] == BAD ? 1 : -10 - w[5]);
        }
        due("nothing has changed", x.get(1, 2, 1), 13);
    }

    private static void write() {
        promise = 37;
        TurningVillage x = new TurningVillage();
        gales(x, 1, 98, 99);
        x.sheet(0, 0, 4);
        x.put(0, 0, 3, 77);
        due("as many as days", x.write(97, 0), 3);
        due("first", x.get(0, 0, 0), 1);
        due("second", x.get(0, 0, 1), 2);
        due("third", x.get(0, 0, 2), 3);
        due("the rest stays", x.get(0, 0, 3), 77);
        due("as many as items", x.write(0, 0), 4);
        due("first", x.get(0, 0, 0), 0);
        due("last", x.get(0, 0, 3), 1);
        x.sheet(1, 2, 0);
        due("none", x.write(0, 1), 0);
        due("the last day", x.write(99, 0), 1);
        due("day below", x.write(-1, 0), BAD);
        due("day above", x.write(100, 0), BAD);
        due("sheet below", x.write(0, -1), BAD);
        due("sheet above", x.write(0, 4), BAD);
        due("lost", x.write(0, 3), NULL);
        due("finding", x.count(8), 1);
        due("bad ahead of null", x.write(100, 3), BAD);
    }

    private static void count() {
        promise = 38;
        TurningVillage x = land("mw......;x1;x1;x3;b0110");
        x.gale(1, 0, 3);
        x.gale(2, 1, 5);
        x.takeBack(0, 7);
        x.set(1, 4);
        x.set(0, 8);
        x.wish(1, 1, 1);
        x.swap(0, 0);
        x.put(3, 0, 0, 0);
        int[] counts = {2, 1, 23, 1, 2, 8, 4, 6, 1};
        for (int what = 0; what < counts.length; what++) {
            due("count " + what, x.count(what), counts[what]);
        }
        due("what below", x.count(-1), BAD);
        due("what above", x.count(9), BAD);
        x.type(300);
        due("a refusal that is no finding", x.count(8), 1);
    }

    private static void digest() {
        promise = 39;
        // That of a new object, from the numbers as the document lists them.
        long h = 17;
        int[] counts = {0, 0, 0, 0, 0, 999, 0, 8, 0};
        for (int c : counts) {
            h = 31 * h + c;
        }
        for (int i = 0; i < 8; i++) {
            h = 31 * (31 * (31 * h) + 1);
        }
        for (int i = 0; i < 5; i++) {
            h = 31 * h;
        }
        int[] away = {0, 1, 2, 3, 4, 3, 2, 1};
        for (int row = 0; row < 8; row++) {
            for (int v : new int[] {0, 0, 0, 10 + away[row], 1 + away[row], NONE}) {
                h = 31 * h + v;
            }
        }
        for (int i = 0; i < 10; i++) {
            h = 31 * h;
        }
        for (int tenant = 0; tenant < 8; tenant++) {
            h = 31 * (31 * h + tenant) + tenant;
        }
        for (int v : new int[] {0, 0, 64, 0, 0, 0, NONE, 12, 2}) {
            h = 31 * h + v;
        }
        TurningVillage x = new TurningVillage();
        due("digest of a new object, where ROWS 0 and 4 meet on PLACE 2", x.digest(), h);
        x.put(0, 0, 0, 0);
        due("findings are not in it", x.digest(), h);
        x.reaped(0, 12);
        due("history as it is told", x.digest() == h ? 1 : 0, 0);
        due("asking changes nothing", x.digest() - x.digest(), 0);
        richDigest();
    }

    /** A village in which every number of the digest would be another one a day, a row or a thing away. */
    private static void richDigest() {
        TurningVillage x = land("fwms.f.w;x3;b0420;b1731");
        gales(x, 1, 9, 10, 11, 12, 19, 20, 24, 25, 26, 29, 30, 31, 49, 50, 51, 74, 75, 76, 98, 99);
        for (int i = 0; i < 8; i++) {
            x.sun(i, i + 1);
            for (int thing = 0; thing < 5; thing++) {
                x.wish(i, thing, (3 * i * i + 5 * thing * i + thing) % 10);
            }
        }
        x.swap(40, 60);
        x.reaped(2, 3);
        due("digest by the other calls", x.digest(), digestByCalls(x));
        for (int begin = 1; begin < 8; begin++) {
            x.set(2, begin);
            x.swap(begin, 99);
            x.reaped(2, begin < 4 ? 1 : 2);
            due("digest by the other calls, begin " + begin, x.digest(), digestByCalls(x));
        }
        TurningVillage waiting = land("........");
        gales(waiting, 45, 46, 47, 48, 49, 50, 51);
        due("no well within 50 days", waiting.digest(), digestByCalls(waiting));
    }

    private static long h;

    private static void mix(long... told) {
        for (long v : told) {
            h = 31 * h + v;
        }
    }

    private static long digestByCalls(TurningVillage x) {
        h = 17;
        mix(x.count(0), x.count(1), x.count(2), x.count(3), x.count(4), x.count(5), x.count(6), x.count(7), x.fault());
        for (int p = 0; p < 8; p++) {
            mix(x.place(p, 0), x.place(p, 1), x.place(p, 2));
        }
        mix(x.turn(0), x.turn(25), x.turn(50), x.turn(75), x.turn(99));
        for (int r = 0; r < 8; r++) {
            mix(x.door(r, 50, 1), x.door(r, 50, 2), x.shine(r, 0, 99));
            mix(x.soon(r, 0, 10), x.carried(r, 0, 10), x.waits(r, 0));
        }
        for (int thing = 0; thing < 5; thing++) {
            mix(x.ahead(thing, 0, 99, 0), x.ahead(thing, 0, 99, 1));
        }
        for (int tenant = 0; tenant < 8; tenant++) {
            mix(x.lives(tenant), x.best(tenant, 10, 30));
        }
        mix(x.best(NONE, 10, 30), x.envy(10, 30));
        mix(x.history(20, 6, 0), x.history(20, 6, 1), x.history(20, 6, 2), x.history(20, 6, 3));
        mix(x.dig(0, 50), x.meet(0, 4, 10, 0), x.meet(0, 4, 10, 1));
        return h;
    }
}
