import java.lang.reflect.Method;
import java.nio.file.Files;
import java.nio.file.Path;
import java.util.Set;
import java.util.TreeSet;
import java.util.regex.Matcher;
import java.util.regex.Pattern;

/** The answers that README.md tells, in the order in which it tells them. Runs from the project's own directory. */
public final class ReadmeTest {
    private static final Pattern CALL = Pattern.compile("x\\.(\\w+)\\(([^)]*)\\); +// (-?\\d+)\\b.*");
    private static final String MADE = "SquaredShips x = new SquaredShips();";

    private static int wrong = 0;
    private static int told = 0;
    private static SquaredShips x = null;
    private static final Set<String> used = new TreeSet<>();

    private static void complain(String what) {
        wrong++;
        System.out.println(what);
    }

    private static Object argument(String text) {
        if (text.equals("true") || text.equals("false")) return text.equals("true");
        return Integer.parseInt(text);
    }

    private static long answered(String name, Object[] args) throws Exception {
        for (Method m : SquaredShips.class.getMethods()) {
            if (m.getName().equals(name) && m.getDeclaringClass() == SquaredShips.class) {
                return ((Number) m.invoke(x, args)).longValue();
            }
        }
        throw new IllegalArgumentException("no such method: " + name);
    }

    private static void line(String line) throws Exception {
        if (line.startsWith(MADE)) {
            x = new SquaredShips();
            return;
        }
        Matcher m = CALL.matcher(line);
        if (x == null || !m.matches()) {
            complain("not a call with its answer: " + line);
            return;
        }
        String[] texts = m.group(2).isEmpty() ? new String[0] : m.group(2).split(", ");
        Object[] args = new Object[texts.length];
        for (int i = 0; i < texts.length; i++) args[i] = argument(texts[i]);
        long is = answered(m.group(1), args);
        told++;
        used.add(m.group(1));
        if (is != Long.parseLong(m.group(3))) complain(line + " answered " + is);
    }

    public static void main(String[] args) throws Exception {
        String text = Files.readString(Path.of("README.md"));
        boolean inside = false;
        for (String line : text.split("\n")) {
            if (line.startsWith("```")) {
                inside = line.equals("```java");
            } else if (inside) {
                line(line);
            }
        }
        for (Method m : SquaredShips.class.getDeclaredMethods()) {
            boolean open = java.lang.reflect.Modifier.isPublic(m.getModifiers());
            if (open && !text.contains(m.getName() + "(")) complain("the page doesn't tell of " + m.getName());
        }
        if (used.size() < 25) complain("only these are shown: " + used);
        System.out.println(told + " answers of the page, " + wrong + " faults");
        if (wrong != 0) System.exit(1);
    }
}
