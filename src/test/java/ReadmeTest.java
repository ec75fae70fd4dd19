import java.lang.reflect.Method;
import java.nio.file.Files;
import java.nio.file.Path;
import java.util.Arrays;
import java.util.Set;
import java.util.TreeSet;
import java.util.regex.Matcher;
import java.util.regex.Pattern;

/** The calls that README.md shows answer what it says behind them, and it speaks of every call. */
public final class ReadmeTest {
    private static final Pattern BLOCK = Pattern.compile("```java\n(.*?)```", Pattern.DOTALL);
    private static final Pattern TEXT = Pattern.compile("\"(.*)\"\\.toCharArray\\(\\)");
    private static final Pattern CALL = Pattern.compile("x\\.(\\w+)\\(([-0-9, ]*)\\);\\s*// (-?\\d+)\\b.*");

    private static TurningVillage x = new TurningVillage();
    private static int wrong = 0;
    private static int shown = 0;

    private ReadmeTest() { }

    public static void main(String[] args) throws Exception {
        String readme = Files.readString(Path.of("README.md"));
        Matcher block = BLOCK.matcher(readme);
        while (block.find()) {
            for (String line : block.group(1).split("\n")) {
                follow(line.strip());
            }
        }
        speaksOfAll(readme);
        System.out.println(shown + " calls shown, " + wrong + " faults");
        if (wrong != 0 || shown == 0) {
            System.exit(1);
        }
    }

    private static void fault(String what) {
        wrong++;
        System.out.println("README.md: " + what);
    }

    private static void follow(String line) throws Exception {
        Matcher text = TEXT.matcher(line), call = CALL.matcher(line);
        if (line.contains("new TurningVillage()")) {
            x = new TurningVillage();
        } else if (text.find()) {
            text.group(1).chars().forEach(sign -> x.type(sign));
        } else if (call.matches()) {
            shown++;
            String got = answer(call.group(1), call.group(2));
            if (!got.equals(call.group(3))) {
                fault(line + " answered " + got);
            }
        } else if (line.startsWith("x.") && !line.startsWith("x.type(sign);")) {
            fault("no answer is told: " + line);
        }
    }

    private static String answer(String name, String told) throws Exception {
        Object[] args = told.isBlank() ? new Object[0]
            : Arrays.stream(told.split(",")).map(a -> Integer.valueOf(a.strip())).toArray();
        for (Method m : TurningVillage.class.getMethods()) {
            if (m.getName().equals(name) && m.getParameterCount() == args.length) {
                return m.invoke(x, args).toString();
            }
        }
        return "nothing: there is no such call";
    }

    private static void speaksOfAll(String readme) {
        Set<String> missing = new TreeSet<>();
        for (Method m : TurningVillage.class.getDeclaredMethods()) {
            boolean isPublic = java.lang.reflect.Modifier.isPublic(m.getModifiers());
            if (isPublic && !readme.contains("`" + m.getName() + "(")) {
                missing.add(m.getName());
            }
        }
        if (!missing.isEmpty()) {
            fault("says nothing of " + missing);
        }
    }
}
