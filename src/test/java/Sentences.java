import java.io.IOException;
import java.nio.file.Files;
import java.nio.file.Path;
import java.util.ArrayList;
import java.util.LinkedHashMap;
import java.util.List;
import java.util.Map;

/**
 * Tests that are named by the document's own words. Words that do not stand where they are said to stand are told of,
 * but fail no test: a document that is told in other words may ask for the same answers.
 */
final class Sentences {
    static final int NONE = -1, UNKNOWN = -2, OUTSIDE = -3, NOT = -4, FULL = -5, SPENT = -6;
    static final int LOW = Integer.MIN_VALUE, HIGH = Integer.MAX_VALUE;
    private static final Path DOCUMENT = Path.of("../shared/DOC.md");

    interface Told {
        void holds();
    }

    /** The document's parts by what each begins with. */
    private final Map<String, String> parts = new LinkedHashMap<>();
    private final Map<String, String> unsaid = new LinkedHashMap<>();
    private final List<String> failed = new ArrayList<>();
    private String part = "";
    private String words = "";
    private int tests = 0;
    private int wrong = 0;

    Sentences() {
        if (!Files.exists(DOCUMENT)) return;
        try {
            String text = Files.readString(DOCUMENT);
            for (String one : text.split("(?m)^(?=## |======== |Refused, |Ahead of the calls)")) {
                String flat = flat(one);
                parts.put(flat, flat);
            }
        } catch (IOException e) {
            System.out.println("the document can't be read: " + e.getMessage());
        }
    }

    private static String flat(String text) {
        return text.replaceAll("\\s+", " ").trim();
    }

    /** From here on all words stand in the part of the document that begins so. */
    void in(String beginning) {
        part = "";
        for (String one : parts.keySet()) if (one.startsWith(beginning)) part = one;
        if (part.isEmpty() && !parts.isEmpty()) System.out.println("no part of the document begins with: " + beginning);
        if (!part.isEmpty()) unsaid.putIfAbsent(part, part);
    }

    void says(String sentence, Told told) {
        words = sentence;
        tests++;
        if (!part.isEmpty()) {
            if (!part.contains(flat(sentence))) System.out.println("\"" + words + "\" does not stand in: " + part);
            unsaid.put(part, unsaid.get(part).replace(flat(sentence), "|"));
        }
        told.holds();
    }

    void due(String call, long got, long want) {
        if (got != want) complain(call + " answered " + got + ", due is " + want);
    }

    void holds(String what, boolean fine) {
        if (!fine) complain(what + " does not hold");
    }

    private void complain(String what) {
        wrong++;
        if (!failed.contains(words)) failed.add(words);
        System.out.println("\"" + words + "\": " + what);
    }

    /** Ends the program; told "unsaid", it shows first what the tests quote none of. */
    void end(String[] args) {
        if (args.length > 0 && args[0].equals("unsaid")) {
            for (String rest : unsaid.values()) System.out.println(rest);
        }
        System.out.println(tests + " sentences, " + failed.size() + " of them broken, " + wrong + " wrong answers");
        if (wrong != 0) System.exit(1);
    }

    // ---- what the tests have in common

    /** A grid with ships, each told by its shape and turns. */
    SquaredShips on(int w, int h, boolean wraps, int... ships) {
        SquaredShips x = new SquaredShips();
        due("grid", x.grid(w, h, wraps), w * h);
        for (int i = 0; i + 1 < ships.length; i += 2) due("ship", x.ship(ships[i], ships[i + 1]), i / 2);
        return x;
    }

    /** Three single cells on 25 make 15625 combinations. */
    SquaredShips tooMany() {
        return on(5, 5, false, 1, 0, 1, 0, 1, 0);
    }

    /** The fewest combinations beyond 10000 that any grid and three ships have: 3 by 38 by 88. */
    SquaredShips justTooMany() {
        return on(4, 6, false, 4104, 0, 3, 1, 21, 2);
    }

    /** 10 by 25 by 40 combinations, 10000. */
    SquaredShips justNotTooMany() {
        return on(2, 5, true, 1, 0, 57, 1, 22, 1);
    }

    SquaredShips layings400() {
        SquaredShips x = on(4, 4, true, 3, 0, 3, 1);
        due("layings", x.layings(), 400);
        return x;
    }

    SquaredShips layings401() {
        SquaredShips x = on(6, 6, false, 28, 0, 12288, 1);
        x.set(0, 2);
        due("layings", x.layings(), 401);
        return x;
    }

    /** A ship that has no spot: three in a row on two columns. */
    SquaredShips noLayings() {
        SquaredShips x = on(2, 2, false, 7, 0);
        due("layings", x.layings(), 0);
        return x;
    }

    /** A call of a cell with its answer. */
    void told(SquaredShips x, int cell, int v) {
        int number = x.call(cell);
        due("answer to call " + number, x.answer(number, v), NONE);
    }

    void spots(SquaredShips x, int ship, long... sets) {
        due("spots", x.spots(ship), sets.length);
        for (int k = 0; k < sets.length; k++) due("spot " + k, x.spot(ship, k), sets[k]);
    }

    void truths(SquaredShips x, int laying, int... answers) {
        for (int c = 0; c < answers.length; c++) {
            due("truth by laying " + laying + " of call " + c, x.truth(laying, c), answers[c]);
        }
    }

    static long cells(int... numbers) {
        long set = 0;
        for (int n : numbers) set |= 1L << n;
        return set;
    }
}
