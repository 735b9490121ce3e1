import java.nio.file.Files;
import java.nio.file.Path;
import java.util.LinkedHashMap;
import java.util.Map;
import java.util.Set;
import java.util.TreeSet;
import java.util.regex.Matcher;
import java.util.regex.Pattern;

/** The rules of LANGUAGE.md that can be read off the class's text. Runs from the project's own directory. */
public final class LanguageTest {
    private static final String[] FORBIDDEN = {
        "\\bthrow\\b", "\\bthrows\\b", "\\btry\\b", "\\bcatch\\b", "\\bsynchronized\\b", "\\bassert\\b",
        "\\binstanceof\\b", "\\bimport\\b", "\\bpackage\\b", "->", "::", "\\bprotected\\b", "\\bequals\\b",
        "\\bhashCode\\b", "\\btoString\\b", "Exact\\b", "\\bSystem\\.(?!arraycopy)", "\\bstatic\\s*\\{", "\\bstatic int \\w+ *;",
        "\\bnative\\b", "\\bvolatile\\b", "\\btransient\\b", "\\bThread\\b", "\\bRandom\\b", "\""};
    private static final Pattern METHOD = Pattern.compile("^ {4,8}(?!if|for|while|switch|else)(?:[a-z]+ )*[A-Za-z\\[\\]]+ ?\\w*\\([^;]*\\) \\{$");

    private static final Pattern CLASS = Pattern.compile("^ *(?:public |private )?(?:static )?final class (\\w+) \\{$");
    private static final Pattern CALL = Pattern.compile("(?:\\b(\\w+)\\.)?\\b(\\w+)\\(");
    /** What the library gives; a class's own methods are never called by a class's name. */
    private static final Set<String> LIBRARY = Set.of("Integer.bitCount", "Long.bitCount", "Long.numberOfTrailingZeros",
        "Long.numberOfLeadingZeros", "Math.max", "Math.min", "Math.floorMod");
    private static final int DEEPEST = 8, MOST_LINES = 60, MOST_CLASSES = 12;

    private static int wrong = 0;

    private static void holds(boolean fine, String what) {
        if (!fine) {
            wrong++;
            System.out.println(what);
        }
    }

    private static void words(String text) {
        for (String one : FORBIDDEN) {
            Matcher m = Pattern.compile(one).matcher(text);
            holds(!m.find(), "forbidden: " + one);
        }
        for (int i = 0; i < text.length(); i++) {
            holds(text.charAt(i) == '\n' || text.charAt(i) >= 32 && text.charAt(i) < 127, "a strange sign at " + i);
        }
    }

    /** Indexes and lengths are used behind a test: straight in a few small methods, at and put elsewhere. */
    private static void rows(String text) {
        Matcher m = Pattern.compile("(?<![\\w])(\\w+)\\[([^\\]]+)\\]").matcher(text);
        while (m.find()) {
            String used = m.group();
            boolean fine = used.startsWith("new") || m.group(1).equals("long") || m.group(1).equals("int")
                || used.equals("row[i]") || used.equals("row[j]") || used.equals("sets[i]")
                || used.equals("both[i]") || used.equals("hidden[i]");
            holds(fine, "an index outside at and put: " + used);
        }
    }

    private static void lengths(String text) {
        String[] lines = text.split("\n", -1);
        int began = -1;
        String close = "";
        for (int i = 0; i < lines.length; i++) {
            if (METHOD.matcher(lines[i]).matches()) {
                began = i;
                close = lines[i].replaceAll("\\S.*", "") + "}";
            }
            if (began >= 0 && lines[i].equals(close)) {
                holds(i - began <= MOST_LINES, "too long: " + lines[began].trim());
                began = -1;
            }
            holds(lines[i].length() <= 120, "a long line: " + (i + 1));
        }
    }

    private static void library(String text) {
        Matcher m = Pattern.compile("\\b([A-Z]\\w*\\.[a-z]\\w*)\\(").matcher(text);
        while (m.find()) holds(LIBRARY.contains(m.group(1)), "not in the library: " + m.group(1));
    }

    /** The bodies of all methods, each by its class and name; methods of one name stand together. */
    private static Map<String, String> bodies(String text) {
        Map<String, String> all = new LinkedHashMap<>();
        Set<String> classes = new TreeSet<>();
        String owner = "", method = "", close = "";
        for (String line : text.split("\n", -1)) {
            Matcher c = CLASS.matcher(line);
            if (c.matches()) {
                owner = c.group(1);
                classes.add(owner);
            } else if (METHOD.matcher(line).matches()) {
                String head = line.substring(0, line.indexOf('(')).trim();
                method = owner + "." + head.substring(head.lastIndexOf(' ') + 1);
                close = line.replaceAll("\\S.*", "") + "}";
            } else if (line.equals(close)) {
                method = "";
            } else if (!method.isEmpty()) {
                all.merge(method, line + "\n", String::concat);
            }
        }
        holds(classes.size() <= MOST_CLASSES, "too many classes: " + classes);
        return all;
    }

    /** The classes that the references of this owner are of. */
    private static Map<String, String> references(String text) {
        Map<String, String> all = new LinkedHashMap<>();
        String owner = "";
        for (String line : text.split("\n", -1)) {
            Matcher c = CLASS.matcher(line);
            if (c.matches()) owner = c.group(1);
            Matcher f = Pattern.compile("^ *(?:private final )?([A-Z]\\w+) (\\w+)(?:;| =.*)$").matcher(line);
            if (f.matches()) all.put(owner + "." + f.group(2), f.group(1));
        }
        return all;
    }

    private static Set<String> calledBy(String method, Map<String, String> bodies, Map<String, String> references) {
        Set<String> all = new TreeSet<>();
        String owner = method.substring(0, method.indexOf('.'));
        Matcher m = CALL.matcher(bodies.get(method));
        while (m.find()) {
            String name = m.group(2);
            String by = m.group(1) == null ? owner : references.getOrDefault(owner + "." + m.group(1), m.group(1));
            for (String one : new String[] {by + "." + name, "SquaredShips." + name}) {
                if (bodies.containsKey(one) && (one.startsWith(by) || m.group(1) == null)) {
                    all.add(one);
                    break;
                }
            }
        }
        return all;
    }

    private static int deep(String method, int open, Map<String, String> bodies, Map<String, String> references) {
        if (open > DEEPEST) {
            holds(false, "calls go too deep, or round, at " + method);
            return open;
        }
        int most = open;
        for (String one : calledBy(method, bodies, references)) {
            most = Math.max(most, deep(one, open + 1, bodies, references));
        }
        return most;
    }

    private static void depth(String text) {
        Map<String, String> bodies = bodies(text);
        Map<String, String> references = references(text);
        int most = 0;
        for (String method : bodies.keySet()) most = Math.max(most, deep(method, 1, bodies, references));
        holds(bodies.size() > 150 && most > 4, "the text's methods aren't found: " + bodies.size() + ", " + most);
        System.out.println(bodies.size() + " methods, calls at most " + most + " deep");
    }

    public static void main(String[] args) throws Exception {
        String text = Files.readString(Path.of("src/main/java/SquaredShips.java"));
        String bare = text.replaceAll("(?s)/\\*.*?\\*/", "").replaceAll("//[^\n]*", "");
        words(bare);
        rows(bare);
        lengths(text);
        library(bare);
        depth(bare);
        System.out.println(wrong == 0 ? "the text keeps to the language" : wrong + " places do not");
        if (wrong != 0) System.exit(1);
    }
}
