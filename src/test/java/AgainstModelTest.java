import java.util.ArrayList;
import java.util.List;

/** Long runs of calls, made by a fixed rule, answered by the class and by the model alike. */
public final class AgainstModelTest {
    private static final String[] NAMES = {
        "grid", "ship", "set", "drift", "spots", "spot", "layings", "laid", "call", "salvo", "answer", "lose",
        "back", "truth", "lies", "left", "which", "there", "sure", "part", "best", "bestSalvo", "need", "calls",
        "hardest", "stray", "blame", "blamed", "switched", "count", "rim", "fitting", "clues", "many"};
    private static final int[] SHAPES = {
        1, 3, 7, 15, 17, 51, 35, 19, 39, 54, 99, 113, 23, 71, 5, 9, 33, 18, 0x8421, 0x1111, 0x1248, 0x31, 0x8000,
        0x62, 0x4e4, 0x36c, 31, 0x9009, 0x311, 0x113, 0x7, 0x27, 0x1131};
    /** How many layings the model may have to play through. */
    private static final long[] WORK = {60, 150, 400, 1500, 10000};

    private long seed;
    private SquaredShips x;
    private Model m;
    private final List<String> told = new ArrayList<>();
    private final long[] seen = new long[NAMES.length];
    private final long[] good = new long[NAMES.length];
    private int wrong = 0;
    /** The laying by which most answers are told. */
    private int held = 0;
    /** Whether no answer is told but the true one. */
    private boolean honest = false;

    private int upTo(int n) {
        seed = seed * 6364136223846793005L + 1442695040888963407L;
        return (int) ((seed >>> 33) % n);
    }

    /** Mostly from .. to, at times a little or far beyond. */
    private int near(int from, int to) {
        int u = upTo(40);
        if (u == 0) return from - 1;
        if (u == 1) return to + 1;
        if (u == 2) return upTo(3) == 0 ? Integer.MIN_VALUE : upTo(2) == 0 ? Integer.MAX_VALUE : -1 - upTo(70);
        return to < from ? from : from + upTo(to - from + 1);
    }

    private int cell() { return near(0, m.w * m.h - 1); }

    private int shipNo() { return near(0, m.ships.size() - 1); }

    private int callNo() { return near(0, m.calls.size() - 1); }

    private int layingNo() { return m.tooMany() ? near(0, 500) : near(0, m.layingsAll().size() - 1); }

    private int rimNo() { return near(0, m.w + m.h - 1); }

    private void same(int i, String args, long got, long want) {
        told.add(NAMES[i] + "(" + args + ") answered " + got);
        seen[i]++;
        if (want >= 0) good[i]++;
        if (got != want) {
            wrong++;
            System.out.println("due is " + want + " at the last of:");
            int from = Math.max(0, told.size() - 60);
            for (int k = from; k < told.size(); k++) System.out.println("  " + told.get(k));
        }
    }

    private int shape() {
        int u = upTo(12);
        if (u == 0) return upTo(70000) - 100;
        if (u < 4) {
            int s = 0;
            for (int n = 1 + upTo(5); n > 0; n--) s |= 1 << upTo(16);
            return s;
        }
        return SHAPES[upTo(SHAPES.length)];
    }

    private boolean tooMuch(long work) {
        return !m.tooMany() && m.layings() * (long) (1 + m.calls.size()) > work * 12;
    }

    private void setUp(int size) {
        int w = near(2, size), h = near(2, size);
        boolean round = upTo(2) == 0;
        same(0, w + ", " + h + ", " + round, x.grid(w, h, round), m.grid(w, h, round));
        for (int n = upTo(4); n > 0; n--) ship();
        if (upTo(2) == 0) set();
        if (upTo(2) == 0) drift();
    }

    private void ship() {
        int shape = shape(), turns = near(0, 2);
        same(1, shape + ", " + turns, x.ship(shape, turns), m.ship(shape, turns));
    }

    private void set() {
        int what = near(0, 2), v = near(0, what == 1 ? 1 : 2);
        same(2, what + ", " + v, x.set(what, v), m.set(what, v));
    }

    private void drift() {
        int dx = near(-1, 1), dy = near(-1, 1);
        same(3, dx + ", " + dy, x.drift(dx, dy), m.drift(dx, dy));
    }

    /** A call with its answer, mostly the true one by some laying that holds for the whole run. */
    private void callAndAnswer() {
        if (upTo(4) == 0) {
            int a = cell(), b = upTo(20) == 0 ? a : cell();
            same(9, a + ", " + b, x.salvo(a, b), m.salvo(a, b));
        } else {
            int c = upTo(3) == 0 ? m.best(0) : cell();
            same(8, "" + c, x.call(c), m.call(c));
        }
        if (upTo(5) == 0 || m.calls.isEmpty()) return;
        int last = m.calls.size() - 1;
        int v = m.truth(held, last);
        if (v < 0 || !honest && upTo(20) == 0) v = near(0, 2);
        same(10, last + ", " + v, x.answer(last, v), m.answer(last, v));
    }

    /** From now on answers are told by a laying that differs in the spot of one ship alone. */
    private void switchShip() {
        if (m.tooMany() || m.ships.isEmpty() || held >= m.layingsAll().size()) return;
        int ship = upTo(m.ships.size());
        int first = upTo(m.layingsAll().size());
        for (int n = 0; n < m.layingsAll().size(); n++) {
            int j = (first + n) % m.layingsAll().size();
            int[] was = m.layingsAll().get(held), is = m.layingsAll().get(j);
            boolean alone = was[ship] != is[ship];
            for (int t = 0; t < was.length; t++) alone &= t == ship || was[t] == is[t];
            if (alone) {
                held = j;
                return;
            }
        }
    }

    private void askOfSwitch() {
        for (int what = 0; what < 2; what++) same(28, "" + what, x.switched(what), m.switched(what));
    }

    private void ask(int i) {
        int a, b, c;
        switch (i) {
            case 4: a = shipNo(); same(i, "" + a, x.spots(a), m.spots(a)); break;
            case 5:
                a = shipNo();
                b = near(0, m.spots(a) - 1);
                same(i, a + ", " + b, x.spot(a, b), m.spot(a, b));
                break;
            case 6: same(i, "", x.layings(), m.layings()); break;
            case 7: a = layingNo(); b = shipNo(); same(i, a + ", " + b, x.laid(a, b), m.laid(a, b)); break;
            case 10:
                a = callNo();
                b = honest || upTo(4) > 0 ? m.truth(held, a) : near(0, 2);
                same(i, a + ", " + b, x.answer(a, b), m.answer(a, b));
                break;
            case 11: a = callNo(); same(i, "" + a, x.lose(a), m.lose(a)); break;
            case 12: same(i, "", x.back(), m.back()); break;
            case 13: a = layingNo(); b = callNo(); same(i, a + ", " + b, x.truth(a, b), m.truth(a, b)); break;
            case 14:
                a = layingNo();
                b = shipNo();
                c = near(0, m.calls.size());
                same(i, a + ", " + b + ", " + c, x.lies(a, b, c), m.lies(a, b, c));
                break;
            case 15: same(i, "", x.left(), m.left()); break;
            case 16: a = near(0, 30); same(i, "" + a, x.which(a), m.which(a)); break;
            case 17: a = cell(); same(i, "" + a, x.there(a), m.there(a)); break;
            case 18: a = near(0, 1); same(i, "" + a, x.sure(a), m.sure(a)); break;
            case 19: a = cell(); b = near(0, 2); same(i, a + ", " + b, x.part(a, b), m.part(a, b)); break;
            case 20: a = near(0, 1); same(i, "" + a, x.best(a), m.best(a)); break;
            case 21: a = near(0, 2); same(i, "" + a, x.bestSalvo(a), m.bestSalvo(a)); break;
            case 22: a = layingNo(); same(i, "" + a, x.need(a), m.need(a)); break;
            case 23: a = layingNo(); b = near(0, 8); same(i, a + ", " + b, x.calls(a, b), m.calls(a, b)); break;
            case 24:
                if (!m.tooMany() && m.layings() > 150 && m.layings() <= 400 && upTo(10) > 0) break;
                a = near(0, 2);
                same(i, "" + a, x.hardest(a), m.hardest(a));
                break;
            case 25: same(i, "", x.stray(), m.stray()); break;
            case 26: same(i, "", x.blame(), m.blame()); break;
            case 27: same(i, "", x.blamed(), m.blamed()); break;
            case 28: a = near(0, 1); same(i, "" + a, x.switched(a), m.switched(a)); break;
            case 29: a = rimNo(); b = upTo(5) == 0 ? near(0, 7) : upTo(4); same(i, a + ", " + b, x.count(a, b), m.count(a, b)); break;
            case 30: a = layingNo(); b = rimNo(); same(i, a + ", " + b, x.rim(a, b), m.rim(a, b)); break;
            case 31: same(i, "", x.fitting(), m.fitting()); break;
            case 32: a = layingNo(); same(i, "" + a, x.clues(a), m.clues(a)); break;
            default: a = near(0, 4); same(33, "" + a, x.many(a), m.many(a)); break;
        }
    }

    private void run(int number) {
        seed = number * 7919L + 17;
        for (int i = 0; i < 5; i++) upTo(2);
        x = new SquaredShips();
        m = new Model();
        told.clear();
        told.add("run " + number);
        int kind = upTo(WORK.length * 4);
        long work = WORK[Math.min(kind < 6 ? 0 : kind < 11 ? 1 : kind < 16 ? 2 : kind < 19 ? 3 : 4, WORK.length - 1)];
        int size = 3 + upTo(4);
        held = 0;
        honest = upTo(3) == 0;
        for (int n = 0; n < 500 && told.size() < 500; n++) {
            int u = upTo(100);
            if (n == 0 && upTo(10) > 0 || u == 0 || tooMuch(work)) {
                setUp(size);
                for (int t = 0; t < 3 && m.layings() < 3 && upTo(4) > 0; t++) setUp(size);
                held = upTo(Math.max(1, m.layings()));
            } else if (u < 2) {
                ship();
            } else if (u < 4) {
                set();
            } else if (u < 5) {
                drift();
            } else if (u < 25) {
                callAndAnswer();
                if (honest && upTo(8) == 0) {
                    switchShip();
                    for (int t = 0; t < 3; t++) callAndAnswer();
                    askOfSwitch();
                }
            } else if (u < 29) {
                ask(10 + upTo(3));
            } else {
                ask(4 + upTo(30));
            }
            if (wrong > 0) return;
        }
    }

    public static void main(String[] args) {
        int from = args.length > 0 ? Integer.parseInt(args[0]) : 0;
        int to = args.length > 1 ? Integer.parseInt(args[1]) : 400;
        AgainstModelTest t = new AgainstModelTest();
        for (int number = from; number < to && t.wrong == 0; number++) t.run(number);
        for (int i = 0; i < NAMES.length; i++) {
            if (args.length > 0) System.out.println(NAMES[i] + " " + t.seen[i] + " " + t.good[i]);
            if (t.good[i] == 0) {
                t.wrong++;
                System.out.println(NAMES[i] + " was never answered by anything but a refusal");
            }
        }
        System.out.println(t.wrong == 0 ? "class and model agree" : "class and model do not agree");
        if (t.wrong != 0) System.exit(1);
    }
}
