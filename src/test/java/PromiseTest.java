import java.lang.reflect.InvocationTargetException;
import java.lang.reflect.Method;
import java.nio.file.Files;
import java.nio.file.Path;
import java.util.ArrayList;
import java.util.BitSet;
import java.util.Comparator;
import java.util.List;
import java.util.regex.Matcher;
import java.util.regex.Pattern;

/**
 * Runs the tests of all promises, each named by its promise's number (p07_.. is of promise 7); with a
 * number as its argument only those of that promise.
 */
public final class PromiseTest {
    private static final Class<?>[] GROUPS = {LandPromises.class, GalePromises.class, SharePromises.class,
        WayPromises.class, TenantPromises.class, HarvestPromises.class, SheetPromises.class, CountPromises.class};
    private static final int PROMISES = 39;
    private static final Path DOCUMENT = Path.of("../shared/DOC.md");
    /** Its number, and what it says behind the call. */
    private static final Pattern PROMISE = Pattern.compile("## Promise (\\d+): [^`]*`[^`]*`: (.*?)(?= ## )");

    private PromiseTest() { }

    public static void main(String[] args) throws Exception {
        int only = args.length > 0 ? Integer.parseInt(args[0]) : 0;
        List<Method> tests = tests();
        quotes(tests);
        int[] many = new int[PROMISES + 1];
        int ran = 0;
        for (Method test : tests) {
            int promise = Integer.parseInt(test.getName().substring(1, 3));
            many[promise]++;
            if (only == 0 || only == promise) {
                run(test);
                ran++;
            }
        }
        Check.begin("all");
        for (int promise = 1; promise <= PROMISES; promise++) {
            if (many[promise] == 0) {
                Check.fail("promise " + promise + " has no test");
            }
        }
        System.out.println(ran + " tests, " + Check.wrongAnswers() + " answers not as due");
        if (Check.wrongAnswers() != 0) {
            System.exit(1);
        }
    }

    private static List<Method> tests() {
        List<Method> tests = new ArrayList<>();
        for (Class<?> group : GROUPS) {
            for (Method m : group.getDeclaredMethods()) {
                if (m.getName().matches("p\\d\\d_.*")) {
                    tests.add(m);
                }
            }
        }
        tests.sort(Comparator.comparing(Method::getName));
        return tests;
    }

    /** Each test quotes the document, word for word. */
    private static void quotes(List<Method> tests) throws Exception {
        if (!Files.isReadable(DOCUMENT)) {
            System.out.println("the document is not here: no quotes are compared");
            return;
        }
        String document = Files.readString(DOCUMENT).replaceAll("\\s+", " ");
        for (Method test : tests) {
            Check.begin(test.getName());
            Says says = test.getAnnotation(Says.class);
            if (says == null) {
                Check.fail("says nothing");
                continue;
            }
            for (String words : says.value()) {
                if (!document.contains(words)) {
                    Check.fail("the document does not say: " + words);
                }
            }
        }
        allAreQuoted(document, tests);
    }

    /** Each word that a promise says of its call is quoted by some test. */
    private static void allAreQuoted(String document, List<Method> tests) {
        BitSet quoted = new BitSet();
        for (Method test : tests) {
            Says says = test.getAnnotation(Says.class);
            for (String words : says == null ? new String[0] : says.value()) {
                for (int at = document.indexOf(words); at >= 0; at = document.indexOf(words, at + 1)) {
                    quoted.set(at, at + words.length());
                }
            }
        }
        Check.begin("all");
        Matcher promise = PROMISE.matcher(document);
        int seen = 0;
        while (promise.find()) {
            seen++;
            for (int i = promise.start(2); i < promise.end(2); i++) {
                if (Character.isLetterOrDigit(document.charAt(i)) && !quoted.get(i)) {
                    Check.fail("promise " + promise.group(1) + ": no test quotes " + document.substring(i, promise.end(2)));
                    break;
                }
            }
        }
        if (seen != PROMISES) {
            Check.fail("the document has " + seen + " promises");
        }
    }

    private static void run(Method test) throws IllegalAccessException {
        Check.begin(test.getName());
        try {
            test.invoke(null);
        } catch (InvocationTargetException thrown) {
            Check.fail("threw " + thrown.getCause());
        }
    }
}
