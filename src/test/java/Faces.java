import java.util.ArrayList;
import java.util.List;

/** The class and the model behind one face, states to ask them in, and all that can be read of a state. */
final class Faces {
    static final String[] NAMES = {
        "grid", "ship", "set", "drift", "spots", "spot", "layings", "laid", "call", "salvo", "answer", "lose",
        "back", "truth", "lies", "left", "which", "there", "sure", "part", "best", "bestSalvo", "need", "calls",
        "hardest", "stray", "blame", "blamed", "switched", "count", "rim", "fitting", "clues", "many"};
    /** How many numbers each of these calls takes; grid's third is 0 or 1 for its truth. */
    static final int[] TAKES = {
        3, 2, 2, 2, 1, 2, 0, 2, 1, 2, 2, 1, 0, 2, 3, 0, 1, 1, 1, 2, 1, 1, 1, 2, 1, 0, 0, 0, 1, 2, 2, 0, 1, 1};
    static final int GRID = 0, SHIP = 1, SET = 2, DRIFT = 3, CALL = 8, SALVO = 9, ANSWER = 10, LOSE = 11, BACK = 12, COUNT = 29;

    /** How many calls the newest object has had: 512 at most. */
    static int asked = 0;

    interface Face {
        long ask(int call, int a, int b, int c);
    }

    interface State {
        void make(Face x);
    }

    private Faces() { }

    static Face ofClass() {
        SquaredShips x = new SquaredShips();
        asked = 0;
        return (call, a, b, c) -> {
            asked++;
            switch (call) {
                case 0: return x.grid(a, b, c != 0);
                case 1: return x.ship(a, b);
                case 2: return x.set(a, b);
                case 3: return x.drift(a, b);
                case 4: return x.spots(a);
                case 5: return x.spot(a, b);
                case 6: return x.layings();
                case 7: return x.laid(a, b);
                case 8: return x.call(a);
                case 9: return x.salvo(a, b);
                case 10: return x.answer(a, b);
                case 11: return x.lose(a);
                case 12: return x.back();
                case 13: return x.truth(a, b);
                case 14: return x.lies(a, b, c);
                case 15: return x.left();
                case 16: return x.which(a);
                case 17: return x.there(a);
                case 18: return x.sure(a);
                case 19: return x.part(a, b);
                case 20: return x.best(a);
                case 21: return x.bestSalvo(a);
                case 22: return x.need(a);
                case 23: return x.calls(a, b);
                case 24: return x.hardest(a);
                case 25: return x.stray();
                case 26: return x.blame();
                case 27: return x.blamed();
                case 28: return x.switched(a);
                case 29: return x.count(a, b);
                case 30: return x.rim(a, b);
                case 31: return x.fitting();
                case 32: return x.clues(a);
                default: return x.many(a);
            }
        };
    }

    static Face ofModel(Model m) {
        return (call, a, b, c) -> {
            switch (call) {
                case 0: return m.grid(a, b, c != 0);
                case 1: return m.ship(a, b);
                case 2: return m.set(a, b);
                case 3: return m.drift(a, b);
                case 4: return m.spots(a);
                case 5: return m.spot(a, b);
                case 6: return m.layings();
                case 7: return m.laid(a, b);
                case 8: return m.call(a);
                case 9: return m.salvo(a, b);
                case 10: return m.answer(a, b);
                case 11: return m.lose(a);
                case 12: return m.back();
                case 13: return m.truth(a, b);
                case 14: return m.lies(a, b, c);
                case 15: return m.left();
                case 16: return m.which(a);
                case 17: return m.there(a);
                case 18: return m.sure(a);
                case 19: return m.part(a, b);
                case 20: return m.best(a);
                case 21: return m.bestSalvo(a);
                case 22: return m.need(a);
                case 23: return m.calls(a, b);
                case 24: return m.hardest(a);
                case 25: return m.stray();
                case 26: return m.blame();
                case 27: return m.blamed();
                case 28: return m.switched(a);
                case 29: return m.count(a, b);
                case 30: return m.rim(a, b);
                case 31: return m.fitting();
                case 32: return m.clues(a);
                default: return m.many(a);
            }
        };
    }

    // ---- states

    static void ships(Face x, int w, int h, int wraps, int... ships) {
        x.ask(GRID, w, h, wraps);
        for (int i = 0; i < ships.length; i += 2) x.ask(SHIP, ships[i], ships[i + 1], 0);
    }

    static void settings(Face x, int touch, int sunk, int lies) {
        x.ask(SET, 0, touch, 0);
        x.ask(SET, 1, sunk, 0);
        x.ask(SET, 2, lies, 0);
    }

    static void calls(Face x, int n, int cells) {
        for (int c = 0; c < n; c++) {
            if (c % 3 == 2) x.ask(SALVO, c * 5 % cells, (c * 5 + 1) % cells, 0);
            else x.ask(CALL, c * 5 % cells, 0, 0);
            if (c % 4 != 3) x.ask(ANSWER, c, c % 5 == 1 ? 1 : c % 7 == 2 ? 2 : 0, 0);
        }
    }

    static void counts(Face x, int rims) {
        for (int r = 0; r < rims; r += 2) x.ask(COUNT, r, r % 3, 0);
    }

    static List<State> states() {
        List<State> all = new ArrayList<>();
        all.add(x -> { });
        all.add(x -> {
            ships(x, 3, 2, 0, 3, 1, 1, 0);
            settings(x, 1, 0, 1);
            counts(x, 5);
        });
        all.add(x -> {
            ships(x, 3, 3, 1, 3, 1, 1, 0);
            settings(x, 0, 1, 2);
            x.ask(DRIFT, 1, -1, 0);
            calls(x, 5, 9);
            counts(x, 6);
        });
        all.add(x -> {
            ships(x, 2, 3, 1, 1, 0, 3, 2, 1, 0);
            calls(x, 30, 6);
            counts(x, 5);
            x.ask(DRIFT, 0, 1, 0);
        });
        all.add(x -> ships(x, 2, 2, 0, 17, 0, 17, 0, 7, 0));
        all.add(x -> {
            ships(x, 2, 2, 0, 7, 0);
            calls(x, 3, 4);
        });
        all.add(x -> {
            ships(x, 5, 5, 1, 1, 0, 1, 0, 1, 0);
            x.ask(DRIFT, 1, 1, 0);
            calls(x, 30, 25);
            counts(x, 10);
        });
        all.add(x -> {
            ships(x, 4, 6, 0, 4104, 0, 3, 1, 21, 2);
            settings(x, 2, 0, 1);
            calls(x, 2, 24);
        });
        all.add(x -> {
            ships(x, 6, 6, 0, 28, 0, 12288, 1);
            settings(x, 2, 1, 0);
            calls(x, 4, 36);
            counts(x, 3);
        });
        all.add(x -> {
            ships(x, 4, 4, 1, 3, 0, 3, 1);
            calls(x, 6, 16);
            x.ask(LOSE, 0, 0, 0);
            x.ask(BACK, 0, 0, 0);
        });
        return all;
    }

    // ---- what can be read

    static void note(List<Long> out, Face x, int call, int a, int b, int c) {
        out.add(x.ask(call, a, b, c));
    }

    /** All that can be read without a change: some 170 calls. */
    static List<Long> read(Face x) {
        List<Long> out = new ArrayList<>();
        for (int what = 0; what < 5; what++) note(out, x, 33, what, 0, 0);
        int cells = (int) x.ask(33, 0, 0, 0);
        int calls = (int) x.ask(33, 2, 0, 0);
        for (int ship = 0; ship < 3; ship++) {
            note(out, x, 4, ship, 0, 0);
            note(out, x, 5, ship, 0, 0);
            note(out, x, 5, ship, 3, 0);
            note(out, x, 7, 0, ship, 0);
            note(out, x, 7, 5, ship, 0);
            note(out, x, 14, 0, ship, calls);
            note(out, x, 14, 7, ship, calls);
        }
        for (int call : new int[] {6, 15, 25, 26, 27, 31}) note(out, x, call, 0, 0, 0);
        for (int c = 0; c < calls; c += 1 + calls / 12) note(out, x, 13, 7, c, 0);
        for (int cell = 0; cell < cells; cell += 1 + cells / 12) {
            note(out, x, 17, cell, 0, 0);
            note(out, x, 19, cell, 1, 0);
        }
        for (int i = 0; i < 2; i++) {
            for (int call : new int[] {16, 18, 20, 22, 28, 32}) note(out, x, call, i, 0, 0);
        }
        for (int k = 0; k < 12; k += 3) {
            note(out, x, 22, k, 0, 0);
            for (int i = 0; i < 4; i++) note(out, x, 23, k, i, 0);
        }
        for (int what = 0; what < 3; what++) {
            note(out, x, 21, what, 0, 0);
            note(out, x, 24, what, 0, 0);
        }
        for (int r = 0; r < 12; r += 3) note(out, x, 30, 0, r, 0);
        return out;
    }

    /** What is told when it is set anew, and what comes then: some 110 calls. */
    static List<Long> readBySetting(Face x) {
        List<Long> out = new ArrayList<>();
        for (int r = 0; r < 12; r++) note(out, x, COUNT, r, 7, 0);
        for (int c = 0; c < 30; c++) note(out, x, ANSWER, c, 1, 0);
        for (int what = 0; what < 3; what++) note(out, x, SET, what, 1, 0);
        note(out, x, 15, 0, 0, 0);
        for (int c = 0; c < 31; c++) note(out, x, BACK, 0, 0, 0);
        note(out, x, SHIP, 1, 0, 0);
        note(out, x, CALL, 3, 0, 0);
        note(out, x, 14, 0, 0, 1);
        note(out, x, 14, 1, 0, 1);
        note(out, x, 6, 0, 0, 0);
        return out;
    }
}
