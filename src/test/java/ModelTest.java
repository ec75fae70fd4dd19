import java.util.Random;

/** Random runs of calls: the class answers each one as the plain model of the document does. */
public final class ModelTest {
    private static final int RUNS = 120;
    private static final int CALLS = 512;
    private static final String SIGNS = ".mwsf";
    private static final int[] STRANGE = {-1, -2, 8, 60, 61, 99, 100, 255, 256, 999, 1000,
        Integer.MIN_VALUE, Integer.MIN_VALUE + 1, Integer.MAX_VALUE, Integer.MAX_VALUE - 1, -1000000};

    private final Random random;
    private final TurningVillage village = new TurningVillage();
    private final PlainVillage plain = new PlainVillage();
    private final StringBuilder calls = new StringBuilder();
    private int time = 0;
    private boolean wrong = false;

    private ModelTest(long seed) {
        random = new Random(seed);
    }

    public static void main(String[] args) {
        int failed = 0;
        for (int run = 0; run < RUNS && failed < 3; run++) {
            ModelTest test = new ModelTest(run);
            for (int call = 0; call < CALLS && !test.wrong; call++) {
                test.oneCall(call);
            }
            if (test.wrong) {
                failed++;
                System.out.println("run " + run + ":\n" + test.calls);
            }
        }
        System.out.println(failed == 0 ? "the class and the model agree" : "they do not agree");
        if (failed != 0) {
            System.exit(1);
        }
    }

    private void same(String name, int[] args, long got, long want) {
        StringBuilder call = new StringBuilder(name).append('(');
        for (int i = 0; i < args.length; i++) {
            call.append(i == 0 ? "" : ", ").append(args[i]);
        }
        calls.append(call).append(") = ").append(got).append('\n');
        if (got != want) {
            wrong = true;
            calls.append("due is ").append(want).append('\n');
        }
    }

    /** Mostly a number from low to high; now and then one just outside or far away. */
    private int some(int low, int high) {
        int dice = random.nextInt(60);
        if (dice == 0) {
            return STRANGE[random.nextInt(STRANGE.length)];
        }
        if (dice == 1) {
            return random.nextBoolean() ? low - 1 : high + 1;
        }
        if (dice == 2) {
            return random.nextBoolean() ? low : high;
        }
        return low + random.nextInt(high - low + 1);
    }

    private int laterTime() {
        if (random.nextInt(3) == 0) {
            time += random.nextInt(12);
        }
        return random.nextInt(25) == 0 ? some(0, 999) : time;
    }

    private int[] span() {
        int a = some(0, 99), b = some(0, 99);
        boolean order = random.nextInt(20) != 0;
        return order ? new int[] {Math.min(a, b), Math.max(a, b)} : new int[] {a, b};
    }

    private void typeAll(String text) {
        for (int i = 0; i < text.length() && !wrong; i++) {
            int b = text.charAt(i);
            same("type", new int[] {b}, village.type(b), plain.type(b));
        }
    }

    private String land() {
        StringBuilder text = new StringBuilder();
        for (int i = 0; i < 8; i++) {
            text.append(SIGNS.charAt(random.nextInt(5)));
        }
        int parts = random.nextInt(6);
        for (int i = 0; i < parts; i++) {
            text.append(random.nextBoolean() ? path() : bridge());
        }
        if (random.nextInt(4) == 0) {
            int at = random.nextInt(text.length());
            text.setCharAt(at, ";xb0123456789.mwsfq ".charAt(random.nextInt(20)));
        }
        if (random.nextInt(6) == 0) {
            text.setLength(random.nextInt(text.length()));
        }
        return text.toString();
    }

    private String path() {
        return ";x" + random.nextInt(random.nextInt(10) == 0 ? 10 : 8);
    }

    private String bridge() {
        int a = random.nextInt(8), b = (a + 1 + random.nextInt(7)) % 8;
        int m = 1 + random.nextInt(8), k = random.nextInt(m);
        return ";b" + a + b + m + k;
    }

    private void oneCall(int call) {
        if (call == 0 || random.nextInt(120) == 0) {
            if (random.nextInt(5) != 0) {
                same("wipe", new int[0], village.wipe(), plain.wipe());
            }
            typeAll(land());
            return;
        }
        int kind = random.nextInt(60);
        if (kind < 26) {
            changingCall(kind);
        } else if (kind < 52) {
            askingCall(kind);
        } else {
            sheetCall(kind);
        }
    }

    private void changingCall(int kind) {
        switch (kind) {
            case 0 -> { int b = random.nextInt(6) == 0 ? some(0, 255) : ";x".charAt(random.nextInt(2));
                same("type", new int[] {b}, village.type(b), plain.type(b)); }
            case 1, 2, 3, 4, 5, 6, 7, 8 -> { int[] a = {some(0, 99), some(0, 1), laterTime()};
                same("gale", a, village.gale(a[0], a[1], a[2]), plain.gale(a[0], a[1], a[2])); }
            case 9, 10 -> { int[] a = {some(0, 3), laterTime()};
                same("read", a, village.read(a[0], a[1]), plain.read(a[0], a[1])); }
            case 11, 12, 13 -> { int[] a = {some(0, 20), laterTime()};
                same("takeBack", a, village.takeBack(a[0], a[1]), plain.takeBack(a[0], a[1])); }
            case 14, 15 -> { int what = some(0, 2);
                int[] a = {what, what == 0 ? some(0, Math.max(1, time)) : some(0, 7)};
                same("set", a, village.set(a[0], a[1]), plain.set(a[0], a[1])); }
            case 16 -> { int[] a = {0, random.nextBoolean() ? 999 : time};
                same("set", a, village.set(a[0], a[1]), plain.set(a[0], a[1])); }
            case 17, 18 -> { int[] a = {some(0, 7), some(0, 9)};
                same("sun", a, village.sun(a[0], a[1]), plain.sun(a[0], a[1])); }
            case 19, 20, 21, 22 -> { int[] a = {some(0, 7), some(0, 4), some(0, 9)};
                same("wish", a, village.wish(a[0], a[1], a[2]), plain.wish(a[0], a[1], a[2])); }
            case 23 -> { int[] s = span(); same("swap", s, village.swap(s[0], s[1]), plain.swap(s[0], s[1])); }
            default -> { int[] a = {some(0, 7), random.nextInt(3) == 0 ? some(-1, 12) : some(-1, 4)};
                same("reaped", a, village.reaped(a[0], a[1]), plain.reaped(a[0], a[1])); }
        }
    }

    private void askingCall(int kind) {
        int[] s = span();
        switch (kind) {
            case 26 -> { int[] a = {some(0, 7), some(0, 2)};
                same("place", a, village.place(a[0], a[1]), plain.place(a[0], a[1])); }
            case 27, 28 -> { int[] a = {some(0, 7), some(0, 7), some(0, 99)};
                same("bridge", a, village.bridge(a[0], a[1], a[2]), plain.bridge(a[0], a[1], a[2])); }
            case 29 -> { int[] a = {some(0, 99)}; same("turn", a, village.turn(a[0]), plain.turn(a[0])); }
            case 30 -> { int[] a = {some(0, 7), some(0, 99), some(0, 2)};
                same("door", a, village.door(a[0], a[1], a[2]), plain.door(a[0], a[1], a[2])); }
            case 31, 32 -> { int[] a = {some(0, 7), some(0, 4), s[0], s[1], some(0, 1)};
                same("share", a, village.share(a[0], a[1], a[2], a[3], a[4]),
                    plain.share(a[0], a[1], a[2], a[3], a[4])); }
            case 33 -> { int[] a = {some(0, 7), s[0], s[1]};
                same("shine", a, village.shine(a[0], a[1], a[2]), plain.shine(a[0], a[1], a[2])); }
            case 34, 35 -> { int[] a = {some(0, 4), s[0], s[1], some(0, 1)};
                same("ahead", a, village.ahead(a[0], a[1], a[2], a[3]), plain.ahead(a[0], a[1], a[2], a[3])); }
            case 36, 37 -> { int[] a = {some(0, 7), some(0, 4), some(0, 4), some(0, 99)};
                same("next", a, village.next(a[0], a[1], a[2], a[3]), plain.next(a[0], a[1], a[2], a[3])); }
            case 38, 39 -> { int[] a = {some(0, 7), some(0, 4), some(0, 4), some(0, 99), some(0, 12),
                some(0, 16), some(0, 1)};
                same("likely", a, village.likely(a[0], a[1], a[2], a[3], a[4], a[5], a[6]),
                    plain.likely(a[0], a[1], a[2], a[3], a[4], a[5], a[6])); }
            default -> otherAskingCall(kind, s);
        }
    }

    private void otherAskingCall(int kind, int[] s) {
        switch (kind) {
            case 40 -> { int[] a = {some(0, 7), some(0, 7), some(0, 99)};
                same("soon", a, village.soon(a[0], a[1], a[2]), plain.soon(a[0], a[1], a[2])); }
            case 41, 42 -> { int[] a = {some(0, 7), some(0, 7), some(0, 99)};
                same("carried", a, village.carried(a[0], a[1], a[2]), plain.carried(a[0], a[1], a[2])); }
            case 43 -> { int[] a = {some(0, 7), some(0, 7), some(0, 99), some(0, 1)};
                same("meet", a, village.meet(a[0], a[1], a[2], a[3]), plain.meet(a[0], a[1], a[2], a[3])); }
            case 44 -> { int[] a = {some(0, 7)}; same("lives", a, village.lives(a[0]), plain.lives(a[0])); }
            case 45 -> { int[] a = {some(0, 7), some(0, 7), s[0], s[1]};
                same("joy", a, village.joy(a[0], a[1], a[2], a[3]), plain.joy(a[0], a[1], a[2], a[3])); }
            case 46 -> { int[] a = {some(-1, 7), s[0], s[1]};
                same("best", a, village.best(a[0], a[1], a[2]), plain.best(a[0], a[1], a[2])); }
            case 47 -> same("envy", s, village.envy(s[0], s[1]), plain.envy(s[0], s[1]));
            case 48, 49 -> { int[] a = {some(0, 99), some(0, 12), some(0, 3)};
                same("history", a, village.history(a[0], a[1], a[2]), plain.history(a[0], a[1], a[2])); }
            case 50 -> { int[] a = {some(0, 7), random.nextBoolean() ? 0 : some(0, 99)};
                same("waits", a, village.waits(a[0], a[1]), plain.waits(a[0], a[1])); }
            default -> { int[] a = {random.nextBoolean() ? 0 : some(0, 99), some(0, 99)};
                same("dig", a, village.dig(a[0], a[1]), plain.dig(a[0], a[1])); }
        }
    }

    private void sheetCall(int kind) {
        switch (kind) {
            case 52 -> { int[] a = {some(0, 3), some(0, 2), random.nextBoolean() ? some(0, 60) : some(0, 5)};
                same("sheet", a, village.sheet(a[0], a[1], a[2]), plain.sheet(a[0], a[1], a[2])); }
            case 53 -> { int[] a = {some(0, 3)};
                if (random.nextInt(3) == 0) same("lose", a, village.lose(a[0]), plain.lose(a[0])); }
            case 54, 55 -> { int v = random.nextBoolean() ? some(0, 99) : random.nextInt();
                int[] a = {some(0, 3), some(0, 2), some(0, 5), v};
                same("put", a, village.put(a[0], a[1], a[2], a[3]), plain.put(a[0], a[1], a[2], a[3])); }
            case 56 -> { int[] a = {some(0, 3), some(0, 2), some(0, 5)};
                same("get", a, village.get(a[0], a[1], a[2]), plain.get(a[0], a[1], a[2])); }
            case 57 -> { int[] a = {some(0, 3), some(0, 5), some(0, 3), some(0, 5), some(0, 5)};
                same("copy", a, village.copy(a[0], a[1], a[2], a[3], a[4]),
                    plain.copy(a[0], a[1], a[2], a[3], a[4])); }
            case 58 -> { int[] a = {some(0, 99), some(0, 3)};
                same("write", a, village.write(a[0], a[1]), plain.write(a[0], a[1])); }
            default -> {
                if (random.nextInt(12) == 0) {
                    same("digest", new int[0], village.digest(), plain.digest());
                    return;
                }
                same("fault", new int[0], village.fault(), plain.fault());
                int[] a = {some(0, 8)};
                same("count", a, village.count(a[0]), plain.count(a[0]));
            }
        }
    }
}
