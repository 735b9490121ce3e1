import java.util.ArrayList;
import java.util.List;

/**
 * What a call changes shows in every answer that comes after it, whatever was asked ahead of it: each change is made
 * once behind all that can be read, and once without, and what is read then must be the same, and as the model says.
 */
public final class ChangesTest {
    private static final int MOST_CHANGES = 2;
    /** The model is asked only where it answers soon. */
    private static final int MOST_LAYINGS = 40;

    private static int wrong = 0;
    private static int made = 0;

    /** States small enough for the model. */
    private static List<Faces.State> states() {
        List<Faces.State> all = new ArrayList<>();
        all.add(x -> { });
        all.add(x -> Faces.ships(x, 3, 3, 0, 3, 1));
        all.add(x -> {
            Faces.ships(x, 3, 2, 1, 3, 0, 1, 0);
            x.ask(Faces.DRIFT, 1, 0, 0);
            Faces.calls(x, 2, 6);
            Faces.counts(x, 3);
        });
        all.add(x -> {
            Faces.ships(x, 2, 2, 0, 1, 0, 1, 0, 1, 0);
            Faces.settings(x, 0, 1, 1);
            Faces.calls(x, 4, 4);
        });
        all.add(x -> {
            Faces.ships(x, 4, 2, 1, 17, 0, 1, 0);
            Faces.settings(x, 1, 0, 0);
            x.ask(Faces.DRIFT, -1, 1, 0);
            Faces.calls(x, 3, 8);
        });
        all.add(x -> {
            Faces.ships(x, 2, 3, 0, 19, 1);
            x.ask(Faces.CALL, 1, 0, 0);
            x.ask(Faces.ANSWER, 0, 1, 0);
            x.ask(Faces.CALL, 2, 0, 0);
            x.ask(Faces.ANSWER, 1, 0, 0);
            Faces.counts(x, 5);
        });
        all.add(x -> {
            Faces.ships(x, 2, 2, 1, 7, 0);
            Faces.calls(x, 3, 4);
        });
        return all;
    }

    private static int[][] changes() {
        return new int[][] {
            {Faces.GRID, 2, 2, 0}, {Faces.GRID, 3, 2, 1}, {Faces.GRID, 5, 5, 0}, {Faces.SHIP, 1, 0, 0}, {Faces.SHIP, 3, 2, 0},
            {Faces.SET, 0, 0, 0}, {Faces.SET, 0, 1, 0}, {Faces.SET, 0, 2, 0}, {Faces.SET, 1, 0, 0}, {Faces.SET, 1, 1, 0},
            {Faces.SET, 2, 0, 0}, {Faces.SET, 2, 1, 0}, {Faces.SET, 2, 2, 0}, {Faces.DRIFT, 0, 0, 0}, {Faces.DRIFT, 1, 0, 0},
            {Faces.DRIFT, 0, -1, 0}, {Faces.CALL, 0, 0, 0}, {Faces.CALL, 3, 0, 0}, {Faces.SALVO, 0, 3, 0},
            {Faces.ANSWER, 0, 0, 0}, {Faces.ANSWER, 0, 1, 0}, {Faces.ANSWER, 1, 2, 0}, {Faces.LOSE, 0, 0, 0},
            {Faces.LOSE, 1, 0, 0}, {Faces.BACK, 0, 0, 0}, {Faces.COUNT, 0, 0, 0}, {Faces.COUNT, 2, 1, 0}, {Faces.COUNT, 0, 7, 0}};
    }

    private static Faces.Face with(Faces.State state, Faces.Face x, boolean reads, List<int[]> path) {
        state.make(x);
        for (int[] c : path) {
            if (reads) Faces.read(x);
            x.ask(c[0], c[1], c[2], c[3]);
        }
        return x;
    }

    private static void check(int number, Faces.State state, List<int[]> path) {
        Faces.Face asked = with(state, Faces.ofClass(), true, path);
        List<Long> behindReading = Faces.read(asked);
        if (Faces.asked > 512) complain("state " + number + ": " + Faces.asked + " calls on one object");
        List<Long> fresh = Faces.read(with(state, Faces.ofClass(), false, path));
        Model m = new Model();
        Faces.Face model = with(state, Faces.ofModel(m), false, path);
        List<Long> due = m.layings() > MOST_LAYINGS ? fresh : Faces.read(model);
        StringBuilder told = new StringBuilder("state " + number);
        for (int[] c : path) told.append(", ").append(Faces.NAMES[c[0]]).append(' ').append(c[1]).append(' ').append(c[2]);
        if (!fresh.equals(due)) complain(told + ": answers " + fresh + ", due is " + due);
        if (!behindReading.equals(due)) complain(told + ", behind reading: answers " + behindReading + ", due is " + due);
        made++;
    }

    private static void complain(String what) {
        wrong++;
        if (wrong < 10) System.out.println(what);
    }

    private static void tryAll(int number, Faces.State state, List<int[]> path) {
        check(number, state, path);
        if (path.size() == MOST_CHANGES) return;
        for (int[] change : changes()) {
            path.add(change);
            tryAll(number, state, path);
            path.remove(path.size() - 1);
        }
    }

    public static void main(String[] args) {
        List<Faces.State> states = states();
        for (int i = 0; i < states.size(); i++) tryAll(i, states.get(i), new ArrayList<>());
        System.out.println(made + " states read, " + wrong + " of them wrong");
        if (wrong != 0) System.exit(1);
    }
}
