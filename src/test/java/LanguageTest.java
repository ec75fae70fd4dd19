import java.lang.reflect.Constructor;
import java.lang.reflect.Field;
import java.lang.reflect.Method;
import java.lang.reflect.Modifier;
import java.nio.file.Files;
import java.nio.file.Path;
import java.util.ArrayList;
import java.util.Arrays;
import java.util.List;
import java.util.Set;
import java.util.TreeSet;
import java.util.regex.Matcher;
import java.util.regex.Pattern;
import java.util.stream.Collectors;

/** What of LANGUAGE.md and of the document's face can be seen in the class and in its source. */
public final class LanguageTest {
    private static final Path DOCUMENT = Path.of("../shared/DOC.md");
    private static final Path SOURCE = Path.of("src/main/java/TurningVillage.java");
    private static final Pattern GROUP = Pattern.compile("Ahead of the calls (.*?) the interface says: ---- (.*?)\\.\n");
    /** The functions of the library that LANGUAGE.md names. */
    private static final Set<String> LIBRARY = Set.of("Math.min", "Math.max", "Math.abs", "Math.floorDiv", "Math.floorMod",
        "Integer.bitCount", "Integer.compare", "Long.bitCount", "Long.compare", "System.arraycopy", "Arrays.fill",
        "Arrays.copyOf", "Arrays.copyOfRange");
    private static final List<String> FORBIDDEN = List.of("\\bthrow\\b", "\\bthrows\\b", "\\btry\\b", "\\bcatch\\b",
        "\\bsynchronized\\b", "\\bassert\\b", "->", "::", "\\bpackage\\b", "\\bgetClass\\b", "\\bvar\\b",
        "\\bdouble\\b", "\\bfloat\\b", "Exact\\(", "\\bprotected\\b", "\\bstatic\\s*\\{",
        "\\bimport (?!java\\.util\\.Arrays;)", "\"", "(?<!\\*)@");

    private static int wrong = 0;

    private static void check(boolean good, String fault) {
        if (!good) {
            wrong++;
            System.out.println(fault);
        }
    }

    public static void main(String[] args) throws Exception {
        face();
        classes();
        source();
        System.out.println(wrong == 0 ? "the language is kept" : wrong + " faults");
        if (wrong != 0) {
            System.exit(1);
        }
    }

    /** The lines of the document's face, each of them once and in this order, are all that the class shows. */
    private static void face() throws Exception {
        Class<?> type = TurningVillage.class;
        check(Modifier.isPublic(type.getModifiers()) && Modifier.isFinal(type.getModifiers()), "not public and final");
        String document = Files.readString(DOCUMENT);
        int start = document.indexOf("```java\n") + "```java\n".length();
        List<String> told = document.substring(start, document.indexOf("```", start)).lines()
            .filter(line -> line.contains("public ")).toList();
        List<String> shown = Files.readString(SOURCE).lines()
            .filter(line -> line.matches("( {4})?(public|protected) .*"))
            .map(line -> line.startsWith("    ") ? line.replace(" {", ";") : line).toList();
        check(told.size() == 41, "the document's face has " + told.size() + " lines");
        check(shown.equals(told), "the face is " + shown);
        int visible = 0;
        for (Method m : type.getDeclaredMethods()) {
            visible += Modifier.isPrivate(m.getModifiers()) || m.isSynthetic() ? 0 : 1;
        }
        check(visible == 38, visible + " methods can be seen");
        Constructor<?>[] constructors = type.getDeclaredConstructors();
        check(constructors.length == 1 && Modifier.isPublic(constructors[0].getModifiers())
            && constructors[0].getParameterCount() == 0, "another constructor");
        constants(type);
        groups(document);
    }

    private static void constants(Class<?> type) throws Exception {
        Set<String> constants = new TreeSet<>();
        for (Field f : type.getDeclaredFields()) {
            if (!Modifier.isPrivate(f.getModifiers())) {
                constants.add(f + " = " + f.getInt(null));
            }
        }
        String start = "public static final int TurningVillage.";
        check(constants.equals(Set.of(start + "NONE = -1", start + "BAD = -2", start + "NOT = -3", start + "FULL = -4")),
            "the constants are " + constants);
    }

    /** What the document's interface says ahead of the calls, the class says ahead of the same ones. */
    private static void groups(String document) throws Exception {
        List<String> told = new ArrayList<>();
        Matcher group = GROUP.matcher(document);
        while (group.find()) {
            told.add("---- " + group.group(2));
            told.addAll(List.of(group.group(1).replace("`", "").split(", ")));
        }
        List<String> shown = new ArrayList<>();
        Matcher line = Pattern.compile("(?m)^ {4}(?:// (---- .*)|public (?:int|long) (\\w+)\\(.*)$").matcher(Files.readString(SOURCE));
        while (line.find()) {
            shown.add(line.group(1) != null ? line.group(1) : line.group(2));
        }
        check(told.size() == 6 + 38, "the document tells of " + told.size() + " calls and groups");
        check(shown.size() >= told.size() && shown.subList(0, told.size()).equals(told), "the groups are " + shown);
    }

    private static void library(String code) {
        Matcher m = Pattern.compile("\\b(?:Math|Integer|Long|Short|Byte|Character|Boolean|System|Arrays)\\.\\w+").matcher(code);
        while (m.find()) {
            check(LIBRARY.contains(m.group()), "not in the library that is told: " + m.group());
        }
    }

    private static void classes() {
        Class<?>[] inside = TurningVillage.class.getDeclaredClasses();
        check(inside.length <= 11, "too many classes");
        Set<String> names = Arrays.stream(TurningVillage.class.getDeclaredMethods())
            .filter(m -> Modifier.isPublic(m.getModifiers())).map(Method::getName).collect(Collectors.toSet());
        for (Class<?> c : inside) {
            check(Modifier.isStatic(c.getModifiers()), "not static: " + c);
            members(c, names);
        }
        members(TurningVillage.class, names);
    }

    private static void members(Class<?> c, Set<String> publicNames) {
        for (Method m : c.getDeclaredMethods()) {
            check(m.getParameterCount() <= 7, "too many parameters: " + m);
            check(Modifier.isPublic(m.getModifiers()) || !publicNames.contains(m.getName()), "bears a public name: " + m);
        }
        int fields = 0;
        for (Field f : c.getDeclaredFields()) {
            boolean isStatic = Modifier.isStatic(f.getModifiers());
            check(!isStatic || Modifier.isFinal(f.getModifiers()), "a static that changes: " + f);
            fields += isStatic ? 0 : 1;
        }
        check(fields <= 20, "too many fields: " + c);
    }

    private static void source() throws Exception {
        String text = Files.readString(SOURCE);
        String code = text.replaceAll("(?s)/\\*.*?\\*/", "").replaceAll("//[^\n]*", "");
        for (String word : FORBIDDEN) {
            Matcher m = Pattern.compile(word).matcher(code);
            check(!m.find(), "forbidden: " + word);
        }
        check(text.chars().allMatch(c -> c < 128), "a sign above 127");
        library(code.replace("import java.util.Arrays;", ""));
        int longest = 0;
        int start = -1;
        String[] lines = code.split("\n");
        for (int i = 0; i < lines.length; i++) {
            if (lines[i].matches("( {4}| {8})[a-zA-Z].*\\) \\{")) {
                start = i;
            } else if (start >= 0 && lines[i].matches("( {4}| {8})\\}")) {
                longest = Math.max(longest, i - start + 1);
                start = -1;
            }
        }
        check(longest <= 60, "a method of " + longest + " lines");
    }
}
