import java.nio.file.Files;
import java.nio.file.Path;
import java.util.regex.Matcher;
import java.util.regex.Pattern;

/** The rules of LANGUAGE.md that can be read off the class's text. Runs from the project's own directory. */
public final class LanguageTest {
    private static final String[] FORBIDDEN = {
        "\\bthrow\\b", "\\bthrows\\b", "\\btry\\b", "\\bcatch\\b", "\\bsynchronized\\b", "\\bassert\\b",
        "\\binstanceof\\b", "\\bimport\\b", "\\bpackage\\b", "->", "::", "\\bprotected\\b", "\\bequals\\b",
        "\\bhashCode\\b", "\\btoString\\b", "Exact\\b", "\\bSystem\\.(?!arraycopy)", "\\bstatic\\s*\\{", "\\bstatic int \\w+ *;",
        "\\bnative\\b", "\\bvolatile\\b", "\\btransient\\b", "\\bThread\\b", "\\bRandom\\b", "\""};
    private static final Pattern METHOD = Pattern.compile("^ {4,8}(?:[a-z]+ )*[A-Za-z\\[\\]]+ ?\\w*\\([^;]*\\) \\{$");

    private static int wrong = 0;

    private static void holds(boolean fine, String what) {
        if (!fine) {
            wrong++;
            System.out.println(what);
        }
    }

    private static void words(String text) {
        for (String one : FORBIDDEN) {
            Matcher m = Pattern.compile(one).matcher(text);
            holds(!m.find(), "forbidden: " + one);
        }
        for (int i = 0; i < text.length(); i++) {
            holds(text.charAt(i) == '\n' || text.charAt(i) >= 32 && text.charAt(i) < 127, "a strange sign at " + i);
        }
    }

    /** Indexes and lengths are used behind a test: straight in a few small methods, at and put elsewhere. */
    private static void rows(String text) {
        Matcher m = Pattern.compile("(?<![\\w])(\\w+)\\[([^\\]]+)\\]").matcher(text);
        while (m.find()) {
            String used = m.group();
            boolean fine = used.startsWith("new") || m.group(1).equals("long") || m.group(1).equals("int")
                || used.equals("row[i]") || used.equals("row[j]") || used.equals("sets[i]")
                || used.equals("both[i]") || used.equals("hidden[i]");
            holds(fine, "an index outside at and put: " + used);
        }
    }

    private static void lengths(String text) {
        String[] lines = text.split("\n", -1);
        int began = -1;
        String close = "";
        for (int i = 0; i < lines.length; i++) {
            if (METHOD.matcher(lines[i]).matches()) {
                began = i;
                close = lines[i].replaceAll("\\S.*", "") + "}";
            }
            if (began >= 0 && lines[i].equals(close)) {
                holds(i - began <= 60, "too long: " + lines[began].trim());
                began = -1;
            }
            holds(lines[i].length() <= 120, "a long line: " + (i + 1));
        }
    }

    public static void main(String[] args) throws Exception {
        String text = Files.readString(Path.of("src/main/java/SquaredShips.java"));
        String bare = text.replaceAll("(?s)/\\*.*?\\*/", "").replaceAll("//[^\n]*", "");
        words(bare);
        rows(bare);
        lengths(text);
        System.out.println(wrong == 0 ? "the text keeps to the language" : wrong + " places do not");
        if (wrong != 0) System.exit(1);
    }
}
