import java.lang.reflect.Constructor;
import java.lang.reflect.Field;
import java.lang.reflect.Method;
import java.lang.reflect.Modifier;
import java.nio.file.Files;
import java.nio.file.Path;
import java.util.Arrays;
import java.util.List;
import java.util.Set;
import java.util.TreeSet;
import java.util.regex.Matcher;
import java.util.regex.Pattern;
import java.util.stream.Collectors;

/** What of LANGUAGE.md and of the document's face can be seen in the class and in its source. */
public final class LanguageTest {
    private static final String FACE = """
        int type(int)
        int wipe()
        int fault()
        int place(int,int)
        int bridge(int,int,int)
        int gale(int,int,int)
        int read(int,int)
        int takeBack(int,int)
        int set(int,int)
        int sun(int,int)
        int turn(int)
        int door(int,int,int)
        long share(int,int,int,int,int)
        int shine(int,int,int)
        int ahead(int,int,int,int)
        int next(int,int,int,int)
        long likely(int,int,int,int,int,int,int)
        int soon(int,int,int)
        int carried(int,int,int)
        int meet(int,int,int,int)
        int wish(int,int,int)
        int lives(int)
        int joy(int,int,int,int)
        int swap(int,int)
        int best(int,int,int)
        int envy(int,int)
        int reaped(int,int)
        int history(int,int,int)
        int waits(int,int)
        int dig(int,int)
        int sheet(int,int,int)
        int lose(int)
        int put(int,int,int,int)
        int get(int,int,int)
        int copy(int,int,int,int,int)
        int write(int,int)
        int count(int)
        long digest()
        """;
    private static final List<String> FORBIDDEN = List.of("\\bthrow\\b", "\\bthrows\\b", "\\btry\\b", "\\bcatch\\b",
        "\\bsynchronized\\b", "\\bassert\\b", "->", "::", "\\bpackage\\b", "\\bgetClass\\b", "\\bvar\\b",
        "\\bdouble\\b", "\\bfloat\\b", "Exact\\(", "\\bprotected\\b", "\\bSystem\\.(?!arraycopy\\b)", "\\bstatic\\s*\\{",
        "\\bimport (?!java\\.util\\.Arrays;)", "\\bArrays\\.(?!fill\\b|copyOf\\b|copyOfRange\\b)", "\"", "(?<!\\*)@");

    private static int wrong = 0;

    private static void check(boolean good, String fault) {
        if (!good) {
            wrong++;
            System.out.println(fault);
        }
    }

    public static void main(String[] args) throws Exception {
        face();
        classes();
        source();
        System.out.println(wrong == 0 ? "the language is kept" : wrong + " faults");
        if (wrong != 0) {
            System.exit(1);
        }
    }

    private static void face() throws Exception {
        Class<?> type = TurningVillage.class;
        check(Modifier.isPublic(type.getModifiers()) && Modifier.isFinal(type.getModifiers()), "not public and final");
        Set<String> told = new TreeSet<>(Arrays.asList(FACE.strip().split("\n")));
        Set<String> seen = new TreeSet<>();
        for (Method m : type.getDeclaredMethods()) {
            if (Modifier.isPrivate(m.getModifiers()) || m.isSynthetic()) {
                continue;
            }
            check(Modifier.isPublic(m.getModifiers()), "neither public nor private: " + m);
            String parameters = Arrays.stream(m.getParameterTypes()).map(Class::getName)
                .collect(Collectors.joining(","));
            seen.add(m.getReturnType() + " " + m.getName() + "(" + parameters + ")");
        }
        check(seen.equals(told), "the face is " + seen);
        Constructor<?>[] constructors = type.getDeclaredConstructors();
        check(constructors.length == 1 && Modifier.isPublic(constructors[0].getModifiers())
            && constructors[0].getParameterCount() == 0, "another constructor");
        Set<String> constants = new TreeSet<>();
        for (Field f : type.getDeclaredFields()) {
            if (!Modifier.isPrivate(f.getModifiers())) {
                constants.add(f + " = " + f.getInt(null));
            }
        }
        String start = "public static final int TurningVillage.";
        check(constants.equals(Set.of(start + "NONE = -1", start + "BAD = -2", start + "NOT = -3", start + "FULL = -4")),
            "the constants are " + constants);
    }

    private static void classes() {
        Class<?>[] inside = TurningVillage.class.getDeclaredClasses();
        check(inside.length <= 11, "too many classes");
        Set<String> names = Arrays.stream(TurningVillage.class.getDeclaredMethods())
            .filter(m -> Modifier.isPublic(m.getModifiers())).map(Method::getName).collect(Collectors.toSet());
        for (Class<?> c : inside) {
            check(Modifier.isStatic(c.getModifiers()), "not static: " + c);
            members(c, names);
        }
        members(TurningVillage.class, names);
    }

    private static void members(Class<?> c, Set<String> publicNames) {
        for (Method m : c.getDeclaredMethods()) {
            check(m.getParameterCount() <= 7, "too many parameters: " + m);
            check(Modifier.isPublic(m.getModifiers()) || !publicNames.contains(m.getName()), "bears a public name: " + m);
        }
        int fields = 0;
        for (Field f : c.getDeclaredFields()) {
            boolean isStatic = Modifier.isStatic(f.getModifiers());
            check(!isStatic || Modifier.isFinal(f.getModifiers()), "a static that changes: " + f);
            fields += isStatic ? 0 : 1;
        }
        check(fields <= 20, "too many fields: " + c);
    }

    private static void source() throws Exception {
        String text = Files.readString(Path.of("src/main/java/TurningVillage.java"));
        String code = text.replaceAll("(?s)/\\*.*?\\*/", "").replaceAll("//[^\n]*", "");
        for (String word : FORBIDDEN) {
            Matcher m = Pattern.compile(word).matcher(code);
            check(!m.find(), "forbidden: " + word);
        }
        check(code.chars().allMatch(c -> c < 128), "a sign above 127");
        int longest = 0;
        int start = -1;
        String[] lines = code.split("\n");
        for (int i = 0; i < lines.length; i++) {
            if (lines[i].matches("( {4}| {8})[a-zA-Z].*\\) \\{")) {
                start = i;
            } else if (start >= 0 && lines[i].matches("( {4}| {8})\\}")) {
                longest = Math.max(longest, i - start + 1);
                start = -1;
            }
        }
        check(longest <= 60, "a method of " + longest + " lines");
    }
}
