import java.io.IOException;
import java.lang.reflect.Constructor;
import java.lang.reflect.Field;
import java.lang.reflect.Method;
import java.lang.reflect.Modifier;
import java.nio.file.Files;
import java.nio.file.Path;
import java.util.Arrays;
import java.util.Map;
import java.util.Set;
import java.util.TreeMap;
import java.util.TreeSet;
import java.util.regex.Matcher;
import java.util.regex.Pattern;

/** The rules of LANGUAGE.md that can be seen in the source or in the compiled class. */
final class LanguageTest {
    private static final String SOURCE = "src/main/java/RoofAcross.java";
    private static final String[] FACE = {
        "int type(int, int)", "int wipe(int)", "int fault(int)", "int house(int, int)", "int rain(int)", "int read(int)",
        "int undo()", "int set(int, int)", "int tiles(int, int)", "int purse(int, int)", "int harm(int, int)",
        "int laid(int, int)", "int all(int, int)", "int ring(int, int)", "int dry(int, int, int)", "int wish(int, int, int)",
        "int want(int, int)", "int market(int)", "int best(int)", "int fact(int, int, int)", "int forget()", "int could(int)",
        "int ask(int)", "int hands(int, int)", "int claim(int, int)", "int liars()", "int sheet(int, int, int)", "int lose(int)",
        "int put(int, int, int, int)", "int get(int, int, int)", "int copy(int, int, int, int, int)", "int write(int)",
        "int count(int)", "long digest()"
    };
    private static final Check check = new Check("LanguageTest");

    public static void main(String[] args) throws IOException {
        face();
        classesInside();
        words(Files.readString(Path.of(SOURCE)));
        libraryUsed(codeOf(Files.readString(Path.of(SOURCE))));
        callsAreShallow(codeOf(Files.readString(Path.of(SOURCE))));
        methodsAreShort(Files.readAllLines(Path.of(SOURCE)));
        check.end();
    }

    private static void face() {
        Class<?> c = RoofAcross.class;
        check.holds("rule 1: the class is public and final", Modifier.isPublic(c.getModifiers()) && Modifier.isFinal(c.getModifiers()));
        Set<String> open = new TreeSet<>();
        for (Method m : c.getDeclaredMethods()) {
            if (!Modifier.isPrivate(m.getModifiers())) {
                check.holds("rule 1: " + m.getName() + " is public", Modifier.isPublic(m.getModifiers()) && !Modifier.isStatic(m.getModifiers()));
                open.add(told(m));
            }
        }
        check.holds("rule 1: the face is " + open, open.equals(new TreeSet<>(Arrays.asList(FACE))));
        Constructor<?>[] constructors = c.getDeclaredConstructors();
        check.due("rule 1: constructors", constructors.length, 1);
        check.due("rule 1: their parameters", constructors[0].getParameterCount(), 0);
        check.holds("rule 1: it is public", Modifier.isPublic(constructors[0].getModifiers()));
        Set<String> constants = new TreeSet<>();
        for (Field f : c.getDeclaredFields()) {
            if (!Modifier.isPrivate(f.getModifiers())) {
                constants.add(f.getName());
            }
        }
        check.holds("rule 1: the constants are " + constants, constants.equals(Set.of("NONE", "BAD", "NOT", "FULL")));
    }

    private static String told(Method m) {
        StringBuilder t = new StringBuilder(m.getReturnType() + " " + m.getName() + "(");
        for (Class<?> p : m.getParameterTypes()) {
            t.append(t.charAt(t.length() - 1) == '(' ? "" : ", ").append(p);
        }
        return t + ")";
    }

    private static void classesInside() {
        Class<?>[] inside = RoofAcross.class.getDeclaredClasses();
        check.holds("rule 11: some twelve classes", inside.length < 12);
        look(RoofAcross.class);
        for (Class<?> c : inside) {
            int mods = c.getModifiers();
            check.holds("rule 1: " + c + " is static and not open", Modifier.isStatic(mods) && !Modifier.isPublic(mods) && !Modifier.isProtected(mods));
            look(c);
        }
    }

    private static void look(Class<?> c) {
        Set<String> names = new TreeSet<>();
        for (String told : FACE) {
            names.add(told.substring(told.indexOf(' ') + 1, told.indexOf('(')));
        }
        int fields = 0;
        for (Field f : c.getDeclaredFields()) {
            boolean isStatic = Modifier.isStatic(f.getModifiers());
            fields += isStatic ? 0 : 1;
            check.holds("rule 5: " + f, !isStatic || (Modifier.isFinal(f.getModifiers()) && (f.getType() == int.class || f.getType() == String.class)));
        }
        check.holds("rule 11: some twenty fields of " + c, fields <= 20);
        for (Method m : c.getDeclaredMethods()) {
            boolean open = c == RoofAcross.class && Modifier.isPublic(m.getModifiers());
            check.holds("rule 1: the name of " + m, open || !names.contains(m.getName()));
            check.holds("rule 11: parameters of " + m, m.getParameterCount() <= 7);
            check.holds("rule 2: no lambda in " + m, !m.isSynthetic());
        }
    }

    /** The source without its comments and what stands in its texts. */
    private static String codeOf(String source) {
        return source.replaceAll("(?s)/\\*.*?\\*/", " ").replaceAll("//[^\n]*", " ").replaceAll("\"[^\"]*\"", "\"\"");
    }

    private static void words(String source) {
        String code = codeOf(source);
        String[] never = {
            "throw", "throws", "try", "catch", "synchronized", "assert", "import", "package", "float", "double", "System.out",
            "System.nanoTime", "System.currentTimeMillis", "Math.random", "Thread", "volatile", "native", "hashCode", "toString"
        };
        for (String word : never) {
            check.holds("rules 4, 6, 13: " + word, !code.matches("(?s).*\\b" + word.replace(".", "\\.") + "\\b.*"));
        }
        check.holds("rule 4: nothing that ends in Exact", !code.matches("(?s).*Exact\\b.*"));
        check.holds("rule 2: no lambda, no reference to a method", !code.contains("->") && !code.contains("::"));
        check.holds("signs of the source are ASCII", source.chars().allMatch(c -> c < 128));
        for (String line : code.split("\n")) {
            boolean made = line.matches(".*\\bnew\\b.*");
            boolean once = line.matches("\\s*(private )?final .* = new .*;") || line.matches("\\s*this\\.\\w+ = new .*;")
                    || line.contains("sheets[s] = new Sheet();");
            check.holds("the room: a call makes no object: " + line.trim(), !made || once);
        }
    }

    /** Rule 4 lists functions alone: a constant of the library (the least int) is none of them. */
    private static void libraryUsed(String code) {
        Set<String> listed = Set.of("System.arraycopy(", "Math.max(", "Math.min(", "Integer.bitCount(", "TEMPER_LETTERS.indexOf(");
        Matcher used = Pattern.compile("\\b([A-Z]\\w*)\\.\\w+\\(?").matcher(code);
        while (used.find()) {
            check.holds("rule 4: " + used.group(), listed.contains(used.group()));
        }
    }

    /** Methods of one name are taken as one, so that no way from call to call is left out. */
    private static void callsAreShallow(String code) {
        Map<String, Set<String>> calls = new TreeMap<>();
        Matcher head = Pattern.compile("(?m)^( {4}| {8})(?:public |private )?(?:static )?(?:[\\w\\[\\]]+ )?(\\w+)\\([^()\n]*\\) \\{$").matcher(code);
        while (head.find()) {
            String body = code.substring(head.end(), code.indexOf("\n" + head.group(1) + "}", head.end()));
            Matcher call = Pattern.compile("(\\w+)\\(").matcher(body);
            while (call.find()) {
                calls.computeIfAbsent(head.group(2), name -> new TreeSet<>()).add(call.group(1));
            }
        }
        calls.values().forEach(names -> names.removeAll(Set.of("if", "for", "while", "switch", "return")));
        check.holds("rule 11: methods were found", calls.keySet().containsAll(Set.of("digest", "liars", "pass", "RoofAcross")));
        for (String name : calls.keySet()) {
            int depth = depthOf(name, calls, 1);
            check.holds("rules 8, 11: calls from " + name + " go " + depth + " deep", depth <= 8);
        }
    }

    private static int depthOf(String name, Map<String, Set<String>> calls, int level) {
        int deepest = 1;
        if (level > 20) {
            return deepest;
        }
        for (String called : calls.getOrDefault(name, Set.of())) {
            deepest = Math.max(deepest, 1 + depthOf(called, calls, level + 1));
        }
        return deepest;
    }

    private static void methodsAreShort(java.util.List<String> lines) {
        int start = -1;
        String head = "";
        for (int i = 0; i < lines.size(); i++) {
            String line = lines.get(i);
            if (start < 0 && line.matches("( {4}| {8})\\S.*\\) \\{")) {
                start = i;
                head = line.substring(0, line.length() - line.stripLeading().length());
            } else if (start >= 0 && line.equals(head + "}")) {
                check.holds("rule 11: a short method at line " + (start + 1), i - start + 1 <= 60);
                start = -1;
            }
        }
    }
}
