import java.io.IOException;
import java.lang.reflect.Method;
import java.nio.charset.StandardCharsets;
import java.nio.file.Files;
import java.nio.file.Path;
import java.util.List;
import java.util.Set;
import java.util.TreeSet;
import java.util.regex.Matcher;
import java.util.regex.Pattern;

/** What README.md shows of the class's answers is so: each line of its Java is a call with its answer behind it. */
public final class ReadmeTest extends Bench {
    private static final Pattern CALL = Pattern.compile("x\\.(\\w+)\\((.*?)\\); +// (-?\\d+|[A-Z]+)(: (.*))?");
    private static final String NEW_OBJECT = "LosingLeague x = new LosingLeague();";
    private static final int MOST_CALLS = 512;

    private static LosingLeague x;
    private static int calls;
    private static final Set<String> SHOWN = new TreeSet<>();

    private static Method method(String name) {
        for (Method m : LosingLeague.class.getDeclaredMethods()) {
            if (m.getName().equals(name)) {
                return m;
            }
        }
        throw new IllegalStateException("README.md has a call that there is not: " + name);
    }

    private static Object argument(String shown, Class<?> type) {
        if (type == boolean.class) {
            return Boolean.valueOf(shown);
        }
        if (type == long.class) {
            return Long.parseUnsignedLong(shown.replaceAll("^0x|L$", ""), 16);
        }
        return Integer.valueOf(shown);
    }

    private static long answer(String name, String[] shown) throws ReflectiveOperationException {
        Method m = method(name);
        Class<?>[] types = m.getParameterTypes();
        Object[] given = new Object[types.length];
        for (int i = 0; i < types.length; i++) {
            given[i] = argument(shown[i].trim(), types[i]);
        }
        return ((Number) m.invoke(x, given)).longValue();
    }

    private static long number(String shown) throws ReflectiveOperationException {
        return Character.isLetter(shown.charAt(0)) ? LosingLeague.class.getField(shown).getInt(null) : Long.parseLong(shown);
    }

    /** The text behind a feed is the one that its number has. */
    private static void fed(String number, String behind) {
        same(2, "the text of " + number, behind, '"' + text(Long.parseUnsignedLong(number.substring(2, 18), 16)) + '"');
    }

    private static String text(long v) {
        StringBuilder bytes = new StringBuilder();
        for (int shift = 56; shift >= 0; shift -= 8) {
            bytes.append((char) (v >>> shift & 255));
        }
        return bytes.toString();
    }

    private static void line(String line) throws ReflectiveOperationException {
        if (line.equals(NEW_OBJECT)) {
            x = new LosingLeague();
            calls = 0;
            return;
        }
        Matcher m = CALL.matcher(line);
        if (!m.matches()) {
            same(1, "a line of README.md", line, "a call with its answer");
            return;
        }
        due(0, "README.md: " + line, answer(m.group(1), m.group(2).split(",")), number(m.group(3)));
        SHOWN.add(m.group(1));
        if (m.group(1).equals("feed")) {
            fed(m.group(2), m.group(5));
        }
        calls++;
        due(1, "calls of one object", calls <= MOST_CALLS ? 1 : 0, 1);
    }

    /** Every call of the face is shown, and every test of the project is named. */
    private static void nothingIsLeftOut(String readme) throws IOException {
        for (Method m : LosingLeague.class.getDeclaredMethods()) {
            if (java.lang.reflect.Modifier.isPublic(m.getModifiers())) {
                due(1, "README.md shows " + m.getName(), SHOWN.contains(m.getName()) ? 1 : 0, 1);
            }
        }
        try (var files = Files.list(Path.of("src/test/java"))) {
            for (Path file : (Iterable<Path>) files::iterator) {
                String name = file.getFileName().toString().replace(".java", "");
                due(1, "README.md names " + name, readme.contains(name) ? 1 : 0, 1);
            }
        }
    }

    public static void main(String[] args) throws IOException, ReflectiveOperationException {
        List<String> lines = Files.readAllLines(Path.of("README.md"), StandardCharsets.UTF_8);
        boolean java = false;
        for (String line : lines) {
            if (line.startsWith("```")) {
                java = line.equals("```java");
            } else if (java) {
                line(line);
            }
        }
        nothingIsLeftOut(String.join("\n", lines));
        finish();
    }
}
