import java.io.IOException;
import java.lang.reflect.InvocationTargetException;
import java.lang.reflect.Method;
import java.lang.reflect.Modifier;
import java.nio.file.DirectoryStream;
import java.nio.file.Files;
import java.nio.file.Path;
import java.util.List;
import java.util.regex.Matcher;
import java.util.regex.Pattern;

/** What README.md says is so: the answers of its example, all calls, all tests. */
final class ReadmeTest {
    private static final Pattern TYPED =
            Pattern.compile("for \\(char c : \"([^\"]*)\"\\.toCharArray\\(\\)\\) street\\.type\\(([01]), c\\); .*");
    private static final Pattern CALL = Pattern.compile("street\\.(\\w+)\\(([-0-9, ]*)\\); +// (-?\\d+)(:.*)?");

    private static final Check check = new Check("ReadmeTest");

    public static void main(String[] args) throws IOException, ReflectiveOperationException {
        Path readme = Path.of("README.md");
        example(Files.readAllLines(readme));
        callsAndTests(Files.readString(readme));
        check.end();
    }

    private static void example(List<String> lines) throws ReflectiveOperationException {
        int start = lines.indexOf("```java");
        check.holds("there is an example", start >= 0);
        RoofAcross street = null;
        int calls = 0;
        for (int i = start + 1; i < lines.size() && !lines.get(i).equals("```"); i++) {
            String line = lines.get(i);
            Matcher typed = TYPED.matcher(line);
            Matcher call = CALL.matcher(line);
            if (line.equals("RoofAcross street = new RoofAcross();")) {
                street = new RoofAcross();
            } else if (typed.matches()) {
                for (char c : typed.group(1).toCharArray()) {
                    street.type(Integer.parseInt(typed.group(2)), c);
                }
            } else if (call.matches()) {
                check.due(line, answer(street, call.group(1), call.group(2)), Long.parseLong(call.group(3)));
                calls++;
            } else {
                check.holds("a line that cannot be read: " + line, false);
            }
        }
        check.holds("the example has calls", calls > 0);
    }

    private static long answer(RoofAcross street, String name, String told)
            throws IllegalAccessException, InvocationTargetException {
        String[] words = told.isEmpty() ? new String[0] : told.split(", ");
        Object[] numbers = new Object[words.length];
        for (int i = 0; i < words.length; i++) {
            numbers[i] = Integer.valueOf(words[i]);
        }
        for (Method m : RoofAcross.class.getDeclaredMethods()) {
            if (Modifier.isPublic(m.getModifiers()) && m.getName().equals(name)) {
                return ((Number) m.invoke(street, numbers)).longValue();
            }
        }
        throw new IllegalArgumentException(name);
    }

    private static void callsAndTests(String text) throws IOException {
        for (Method m : RoofAcross.class.getDeclaredMethods()) {
            if (Modifier.isPublic(m.getModifiers())) {
                check.holds("README.md names " + m.getName(), text.contains("`" + m.getName() + "`"));
            }
        }
        try (DirectoryStream<Path> files = Files.newDirectoryStream(Path.of("src/test/java"), "*.java")) {
            for (Path file : files) {
                String name = file.getFileName().toString().replace(".java", "");
                check.holds("README.md names " + name, text.contains("`" + name + "`"));
            }
        }
        Matcher named = Pattern.compile("`(\\w+Test)`").matcher(text);
        while (named.find()) {
            check.holds("there is " + named.group(1), Files.exists(Path.of("src/test/java", named.group(1) + ".java")));
        }
    }
}
