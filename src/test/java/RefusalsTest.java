import java.util.ArrayList;
import java.util.List;

/**
 * "Refused, and nothing changes .. the first of these that fits": in many states every call is made with numbers at
 * and beyond each edge. What the model refuses must be refused alike, and all that can be read must be as it was.
 */
public final class RefusalsTest {
    private static final int LOW = Integer.MIN_VALUE, HIGH = Integer.MAX_VALUE;

    private static int wrong = 0;
    private static int refused = 0;

    // ---- what is refused

    /** The refusals, told once more by themselves: the first that fits, or 0. */
    private static int refusalOf(Model m, int call, int a, int b, int c) {
        boolean many = m.tooMany();
        int n = many ? 0 : m.layings();
        boolean crowd = many || n > 400;
        boolean ship = is(a, m.ships.size()), cell = is(a, m.w * m.h), called = is(a, m.calls.size()), rim = is(a, m.w + m.h);
        int calls = m.calls.size();
        switch (call) {
            case 0: return first(!in(a, 2, 6) || !in(b, 2, 6), -3);
            case 1: return first(!in(a, 1, 65535) || !in(Integer.bitCount(a), 1, 5) || !in(b, 0, 2), -3, calls > 0, -4, m.ships.size() == 3, -5);
            case 2: return first(!in(a, 0, 2) || !in(b, 0, a == 1 ? 1 : 2), -3);
            case 3: return first(!in(a, -1, 1) || !in(b, -1, 1), -3, !m.wraps, -4);
            case 4: return first(!ship, -2);
            case 5: return first(!ship, -2, !is(b, m.spots(a)), -3);
            case 6: return first(many, -6);
            case 7: return first(!is(b, m.ships.size()), -2, many, -6, !is(a, n), -2);
            case 8: return first(!cell, -2, calls == 30, -5);
            case 9: return first(!cell || !is(b, m.w * m.h), -2, a == b, -3, calls == 30, -5);
            case 10: return first(!called, -2, !in(b, 0, 2), -3);
            case 11: return first(!called, -2, called && m.told.get(a) == -1, -4);
            case 12: return first(calls == 0, -4);
            case 13: return first(!is(b, calls), -2, many, -6, !is(a, n), -2);
            case 14: return first(!is(b, m.ships.size()), -2, !in(c, 0, calls), -3, many, -6, !is(a, n), -2);
            case 15: return first(many, -6);
            case 16: return first(a < 0, -3, many, -6);
            case 17: return first(!cell, -2, many, -6);
            case 18: return first(!in(a, 0, 1), -3, many, -6);
            case 19: return first(!cell, -2, !in(b, 0, 2), -3, many, -6);
            case 20: return first(!in(a, 0, 1), -3, many, -6);
            case 21: return first(!in(a, 0, 2), -3, many, -6);
            case 22: return first(crowd, -6, !is(a, n), -2);
            case 23: return first(b < 0, -3, many, -6, !is(a, n), -2);
            case 24: return first(!in(a, 0, 2), -3, crowd, -6);
            case 25: case 26: case 27: return first(many, -6);
            case 28: return first(!in(a, 0, 1), -3, crowd, -6, !crowd && m.blame() == 0, -4);
            case 29: return first(!rim, -2, !in(b, 0, 7), -3);
            case 30: return first(!is(b, m.w + m.h), -2, many, -6, !is(a, n), -2);
            case 31: return first(many, -6);
            case 32: return first(crowd, -6, !is(a, n), -2);
            default: return first(!in(a, 0, 4), -3);
        }
    }

    private static boolean is(int v, int size) {
        return v >= 0 && v < size;
    }

    private static boolean in(int v, int from, int to) {
        return v >= from && v <= to;
    }

    /** Pairs of whether a refusal fits, and what it answers. */
    private static int first(Object... pairs) {
        for (int i = 0; i + 1 < pairs.length; i += 2) if ((Boolean) pairs[i]) return (Integer) pairs[i + 1];
        return 0;
    }

    // ---- calls at the edges

    private static int[] edges(Model m, int call, int place) {
        int n = m.tooMany() ? 10032 : m.layings();
        switch (10 * call + place) {
            case 10: return new int[] {LOW, -1, 0, 1, 63, 65535, 65536, 65537, HIGH};
            case 40: case 50: case 71: case 141: return around(m.ships.size());
            case 51: return new int[] {LOW, -1, 0, 3, 4, 36, 288, HIGH};
            case 70: case 130: case 140: case 220: case 230: case 300: case 320: return around(n);
            case 80: case 90: case 91: case 170: case 190: return around(m.w * m.h);
            case 100: case 110: case 131: return around(m.calls.size());
            case 142: return new int[] {LOW, -1, 0, m.calls.size(), m.calls.size() + 1, HIGH};
            case 290: case 301: return around(m.w + m.h);
            case 2: return new int[] {0, 1};
            default: return new int[] {LOW, -2, -1, 0, 1, 2, 3, 5, 7, 8, HIGH};
        }
    }

    private static int[] around(int size) {
        return new int[] {LOW, -1, 0, size - 1, size, size + 1, HIGH};
    }

    private static void complain(int state, String call, String what) {
        wrong++;
        if (wrong < 40) System.out.println("state " + state + ", " + call + ": " + what);
    }

    /** One refused call on a fresh object, and all that can be read ahead of it and behind. */
    private static void refuse(int number, Faces.State state, List<Long> told, int call, int[] args, int due) {
        String name = Faces.NAMES[call] + " " + args[0] + " " + args[1] + " " + args[2];
        Faces.Face x = Faces.ofClass();
        state.make(x);
        List<Long> before = refused % 2 == 0 ? Faces.read(x) : null;
        long got = x.ask(call, args[0], args[1], args[2]);
        if (got != due) complain(number, name, "answered " + got + ", due is " + due);
        List<Long> after = Faces.read(x);
        if (before != null && !before.equals(after)) complain(number, name, "changed what is read");
        List<Long> rest = new ArrayList<>(after);
        rest.addAll(Faces.readBySetting(x));
        if (!rest.equals(told)) complain(number, name, "changed what is read by setting");
        if (Faces.asked > 512) complain(number, name, Faces.asked + " calls on one object");
        refused++;
    }

    private static void tryAll(int number, Faces.State state) {
        Model m = new Model();
        state.make(Faces.ofModel(m));
        Faces.Face untouched = Faces.ofClass();
        state.make(untouched);
        List<Long> told = Faces.read(untouched);
        told.addAll(Faces.readBySetting(untouched));
        int[] one = {0};
        for (int call = 0; call < Faces.NAMES.length; call++) {
            int before = refused;
            for (int a : Faces.TAKES[call] > 0 ? edges(m, call, 0) : one) {
                for (int b : Faces.TAKES[call] > 1 ? edges(m, call, 1) : one) {
                    for (int c : Faces.TAKES[call] > 2 ? edges(m, call, 2) : one) {
                        int due = refusalOf(m, call, a, b, c);
                        if (due != 0) refuse(number, state, told, call, new int[] {a, b, c}, due);
                    }
                }
            }
            if (Faces.TAKES[call] > 0 && refused == before) complain(number, Faces.NAMES[call], "was never refused");
        }
    }

    public static void main(String[] args) {
        List<Faces.State> states = Faces.states();
        for (int i = 0; i < states.size(); i++) tryAll(i, states.get(i));
        System.out.println(refused + " calls were refused, " + wrong + " of them wrong");
        if (wrong != 0) System.exit(1);
    }
}
