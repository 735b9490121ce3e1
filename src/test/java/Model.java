import java.util.ArrayList;
import java.util.HashMap;
import java.util.LinkedHashSet;
import java.util.List;
import java.util.Map;
import java.util.Set;
import java.util.TreeMap;
import java.util.TreeSet;

/**
 * The document told once more in the slowest and plainest way, with none of the class's thoughts:
 * cells are lists of numbers, every laying is played anew for every question.
 */
final class Model {
    static final int NONE = -1, UNKNOWN = -2, OUTSIDE = -3, NOT = -4, FULL = -5, SPENT = -6;

    int w = 5, h = 5, dx = 0, dy = 0, touch = 0, sunk = 1, lies = 0;
    boolean wraps = false;
    final List<int[]> ships = new ArrayList<>();
    final List<int[]> calls = new ArrayList<>();
    final List<Integer> told = new ArrayList<>();
    final Map<Integer, Integer> counts = new TreeMap<>();
    private final Map<Integer, List<List<Integer>>> spotsKept = new HashMap<>();
    private List<int[]> layingsKept = null;

    // ---- terms

    private void changed() {
        spotsKept.clear();
        layingsKept = null;
    }

    private boolean cellIs(int c) { return c >= 0 && c < w * h; }

    private boolean shipIs(int s) { return s >= 0 && s < ships.size(); }

    private boolean callIs(int c) { return c >= 0 && c < calls.size(); }

    private boolean rimIs(int r) { return r >= 0 && r < w + h; }

    private static long bits(Iterable<Integer> cells) {
        long v = 0;
        for (int c : cells) v |= 1L << c;
        return v;
    }

    private List<List<int[]>> turned(int shape, int turns) {
        List<int[]> told = new ArrayList<>();
        for (int y = 0; y < 4; y++)
            for (int x = 0; x < 4; x++)
                if ((shape & (1 << (4 * y + x))) != 0) told.add(new int[] {x, y});
        List<List<int[]>> all = new ArrayList<>();
        all.add(told);
        if (turns >= 1) {
            List<int[]> r = told;
            for (int q = 0; q < 3; q++) {
                List<int[]> next = new ArrayList<>();
                for (int[] p : r) next.add(new int[] {-p[1], p[0]});
                all.add(next);
                r = next;
            }
        }
        if (turns == 2) {
            for (List<int[]> one : new ArrayList<>(all)) {
                List<int[]> m = new ArrayList<>();
                for (int[] p : one) m.add(new int[] {-p[0], p[1]});
                all.add(m);
            }
        }
        return all;
    }

    List<List<Integer>> spotsOf(int s) {
        List<List<Integer>> kept = spotsKept.get(s);
        if (kept != null) return kept;
        TreeMap<Long, List<Integer>> found = new TreeMap<>();
        for (List<int[]> one : turned(ships.get(s)[0], ships.get(s)[1])) {
            for (int my = -12; my <= 12; my++) {
                for (int mx = -12; mx <= 12; mx++) {
                    Set<Integer> cells = new LinkedHashSet<>();
                    boolean in = true;
                    for (int[] p : one) {
                        int x = p[0] + mx, y = p[1] + my;
                        if (wraps) {
                            x = ((x % w) + w) % w;
                            y = ((y % h) + h) % h;
                        }
                        if (x < 0 || y < 0 || x >= w || y >= h) in = false;
                        else cells.add(w * y + x);
                    }
                    if (in && cells.size() == one.size()) found.put(bits(cells), new ArrayList<>(cells));
                }
            }
        }
        kept = new ArrayList<>(found.values());
        spotsKept.put(s, kept);
        return kept;
    }

    private long product() {
        long p = 1;
        for (int s = 0; s < ships.size(); s++) p *= spotsOf(s).size();
        return p;
    }

    boolean tooMany() { return product() > 10000; }

    private int apart(int a, int b, int size) {
        int d = Math.abs(a - b);
        return wraps ? Math.min(d, size - d) : d;
    }

    private boolean bothMayLie(List<Integer> p, List<Integer> q) {
        for (int a : p) {
            for (int b : q) {
                if (a == b) return false;
                int x = apart(a % w, b % w, w), y = apart(a / w, b / w, h);
                if (touch >= 1 && x + y == 1) return false;
                if (touch == 2 && x == 1 && y == 1) return false;
            }
        }
        return true;
    }

    List<int[]> layingsAll() {
        if (layingsKept == null) {
            layingsKept = new ArrayList<>();
            lay(new int[ships.size()], 0);
        }
        return layingsKept;
    }

    private void lay(int[] spots, int s) {
        if (s == ships.size()) {
            layingsKept.add(spots.clone());
            return;
        }
        for (int k = 0; k < spotsOf(s).size(); k++) {
            boolean may = true;
            for (int t = 0; t < s; t++) {
                if (!bothMayLie(spotsOf(t).get(spots[t]), spotsOf(s).get(k))) may = false;
            }
            if (may) {
                spots[s] = k;
                lay(spots, s + 1);
            }
        }
    }

    /** One laying behind some calls: where each cell of each ship lies, and which were hit. */
    final class Stand {
        final List<List<Integer>> at = new ArrayList<>();
        final List<List<Boolean>> hit = new ArrayList<>();
        final List<Integer> answers = new ArrayList<>();

        Stand(int[] laying) {
            for (int s = 0; s < laying.length; s++) {
                at.add(new ArrayList<>(spotsOf(s).get(laying[s])));
                List<Boolean> none = new ArrayList<>();
                for (int i = 0; i < at.get(s).size(); i++) none.add(false);
                hit.add(none);
            }
        }

        int truthOf(int cell) {
            for (int s = 0; s < at.size(); s++) {
                int i = at.get(s).indexOf(cell);
                if (i < 0) continue;
                if (sunk == 0 || hit.get(s).get(i)) return 1;
                for (int j = 0; j < at.get(s).size(); j++) {
                    if (j != i && !hit.get(s).get(j)) return 1;
                }
                return 2;
            }
            return 0;
        }

        boolean has(int cell) {
            for (List<Integer> one : at) if (one.contains(cell)) return true;
            return false;
        }

        void make(int[] call, boolean drifts) {
            int a = call.length == 1 ? truthOf(call[0]) : (has(call[0]) ? 1 : 0) + (has(call[1]) ? 1 : 0);
            answers.add(a);
            for (int cell : call) {
                for (int s = 0; s < at.size(); s++) {
                    int i = at.get(s).indexOf(cell);
                    if (i >= 0) hit.get(s).set(i, true);
                }
            }
            if (a == 0 && drifts) drift();
        }

        private void drift() {
            List<List<Integer>> next = new ArrayList<>();
            Set<Integer> used = new TreeSet<>();
            boolean meets = false;
            for (int s = 0; s < at.size(); s++) {
                List<Integer> moved = new ArrayList<>();
                for (int cell : at.get(s)) {
                    int x = cell % w, y = cell / w;
                    int to = hit.get(s).contains(true) ? cell : w * ((y + dy + h) % h) + (x + dx + w) % w;
                    moved.add(to);
                    if (!used.add(to)) meets = true;
                }
                next.add(moved);
            }
            if (!meets) {
                at.clear();
                at.addAll(next);
            }
        }
    }

    private Stand behind(int[] laying, int n) {
        Stand stand = new Stand(laying);
        for (int c = 0; c < n; c++) stand.make(calls.get(c), true);
        return stand;
    }

    private List<Integer> wrong(int[] laying) {
        Stand stand = behind(laying, calls.size());
        List<Integer> out = new ArrayList<>();
        for (int c = 0; c < calls.size(); c++) {
            if (told.get(c) != NONE && !told.get(c).equals(stand.answers.get(c))) out.add(c);
        }
        return out;
    }

    private List<Integer> leftOnes() {
        List<Integer> out = new ArrayList<>();
        for (int k = 0; k < layingsAll().size(); k++) {
            if (wrong(layingsAll().get(k)).size() <= lies) out.add(k);
        }
        return out;
    }

    private List<Stand> leftStands() {
        List<Stand> out = new ArrayList<>();
        for (int k : leftOnes()) out.add(behind(layingsAll().get(k), calls.size()));
        return out;
    }

    private static int greatestOf(int... parts) {
        int most = 0;
        for (int p : parts) most = Math.max(most, p);
        return most;
    }

    // ---- grid, ships

    int grid(int ww, int hh, boolean round) {
        if (ww < 2 || ww > 6 || hh < 2 || hh > 6) return OUTSIDE;
        w = ww;
        h = hh;
        wraps = round;
        ships.clear();
        calls.clear();
        told.clear();
        counts.clear();
        dx = 0;
        dy = 0;
        changed();
        return w * h;
    }

    int ship(int shape, int turns) {
        if (shape < 0 || shape > 0xFFFF) return OUTSIDE;
        int n = Integer.bitCount(shape);
        if (n < 1 || n > 5 || turns < 0 || turns > 2) return OUTSIDE;
        if (!calls.isEmpty()) return NOT;
        if (ships.size() == 3) return FULL;
        ships.add(new int[] {shape, turns});
        changed();
        return ships.size() - 1;
    }

    int set(int what, int v) {
        if (what < 0 || what > 2 || v < 0 || v > (what == 1 ? 1 : 2)) return OUTSIDE;
        int was;
        if (what == 0) {
            was = touch;
            touch = v;
            changed();
        } else if (what == 1) {
            was = sunk;
            sunk = v;
        } else {
            was = lies;
            lies = v;
        }
        return was;
    }

    int drift(int x, int y) {
        if (x < -1 || x > 1 || y < -1 || y > 1) return OUTSIDE;
        if (!wraps) return NOT;
        dx = x;
        dy = y;
        return 1;
    }

    int spots(int s) { return shipIs(s) ? spotsOf(s).size() : UNKNOWN; }

    long spot(int s, int k) {
        if (!shipIs(s)) return UNKNOWN;
        return k >= 0 && k < spotsOf(s).size() ? bits(spotsOf(s).get(k)) : OUTSIDE;
    }

    int layings() { return tooMany() ? SPENT : layingsAll().size(); }

    private boolean layingIs(int k) { return k >= 0 && k < layingsAll().size(); }

    private boolean crowded() { return tooMany() || layingsAll().size() > 400; }

    int laid(int k, int s) {
        if (!shipIs(s)) return UNKNOWN;
        if (tooMany()) return SPENT;
        return layingIs(k) ? layingsAll().get(k)[s] : UNKNOWN;
    }

    // ---- calls

    int call(int cell) {
        if (!cellIs(cell)) return UNKNOWN;
        if (calls.size() == 30) return FULL;
        calls.add(new int[] {cell});
        told.add(NONE);
        return calls.size() - 1;
    }

    int salvo(int a, int b) {
        if (!cellIs(a) || !cellIs(b)) return UNKNOWN;
        if (a == b) return OUTSIDE;
        if (calls.size() == 30) return FULL;
        calls.add(new int[] {a, b});
        told.add(NONE);
        return calls.size() - 1;
    }

    int answer(int c, int v) {
        if (!callIs(c)) return UNKNOWN;
        if (v < 0 || v > 2) return OUTSIDE;
        return told.set(c, v);
    }

    int lose(int c) {
        if (!callIs(c)) return UNKNOWN;
        if (told.get(c) == NONE) return NOT;
        told.set(c, NONE);
        return 1;
    }

    int back() {
        if (calls.isEmpty()) return NOT;
        calls.remove(calls.size() - 1);
        told.remove(told.size() - 1);
        return calls.size();
    }

    int truth(int k, int c) {
        if (!callIs(c)) return UNKNOWN;
        if (tooMany()) return SPENT;
        return layingIs(k) ? behind(layingsAll().get(k), c + 1).answers.get(c) : UNKNOWN;
    }

    long lies(int k, int s, int n) {
        if (!shipIs(s)) return UNKNOWN;
        if (n < 0 || n > calls.size()) return OUTSIDE;
        if (tooMany()) return SPENT;
        return layingIs(k) ? bits(behind(layingsAll().get(k), n).at.get(s)) : UNKNOWN;
    }

    // ---- what is left

    int left() { return tooMany() ? SPENT : leftOnes().size(); }

    int which(int i) {
        if (i < 0) return OUTSIDE;
        if (tooMany()) return SPENT;
        List<Integer> all = leftOnes();
        return i < all.size() ? all.get(i) : NONE;
    }

    int there(int cell) {
        if (!cellIs(cell)) return UNKNOWN;
        if (tooMany()) return SPENT;
        int n = 0;
        for (Stand s : leftStands()) if (s.has(cell)) n++;
        return n;
    }

    long sure(int way) {
        if (way != 0 && way != 1) return OUTSIDE;
        if (tooMany()) return SPENT;
        long out = (1L << (w * h)) - 1;
        for (Stand s : leftStands()) {
            for (int c = 0; c < w * h; c++) if (s.has(c) != (way == 0)) out &= ~(1L << c);
        }
        return out;
    }

    int part(int cell, int answer) {
        if (!cellIs(cell)) return UNKNOWN;
        if (answer < 0 || answer > 2) return OUTSIDE;
        if (tooMany()) return SPENT;
        int n = 0;
        for (Stand s : leftStands()) if (s.truthOf(cell) == answer) n++;
        return n;
    }

    private int[] bestOf(List<Stand> stands) {
        int[] best = {NONE, Integer.MAX_VALUE};
        for (int c = 0; c < w * h; c++) {
            int[] parts = new int[3];
            for (Stand s : stands) parts[s.truthOf(c)]++;
            int g = greatestOf(parts);
            if (g < best[1]) best = new int[] {c, g};
        }
        return best;
    }

    int best(int what) {
        if (what != 0 && what != 1) return OUTSIDE;
        if (tooMany()) return SPENT;
        List<Stand> stands = leftStands();
        return stands.isEmpty() ? NONE : bestOf(stands)[what];
    }

    int bestSalvo(int what) {
        if (what < 0 || what > 2) return OUTSIDE;
        if (tooMany()) return SPENT;
        List<Stand> stands = leftStands();
        if (stands.isEmpty()) return NONE;
        int[] best = {NONE, NONE, Integer.MAX_VALUE};
        for (int a = 0; a < w * h; a++) {
            for (int b = a + 1; b < w * h; b++) {
                int[] parts = new int[3];
                for (Stand s : stands) parts[(s.has(a) ? 1 : 0) + (s.has(b) ? 1 : 0)]++;
                int g = greatestOf(parts);
                if (g < best[2]) best = new int[] {a, b, g};
            }
        }
        return best[what];
    }

    // ---- the caller

    /** The cells that the caller calls, if it is laying k. */
    private List<Integer> pathOf(int k) {
        List<Integer> can = new ArrayList<>();
        for (int j = 0; j < layingsAll().size(); j++) can.add(j);
        List<Integer> path = new ArrayList<>();
        while (can.size() > 1) {
            List<Stand> stands = new ArrayList<>();
            for (int j : can) {
                Stand s = new Stand(layingsAll().get(j));
                for (int c : path) s.make(new int[] {c}, false);
                stands.add(s);
            }
            int[] best = bestOf(stands);
            if (best[1] == can.size()) break;
            int mine = stands.get(can.indexOf(k)).truthOf(best[0]);
            List<Integer> next = new ArrayList<>();
            for (int i = 0; i < can.size(); i++) {
                if (stands.get(i).truthOf(best[0]) == mine) next.add(can.get(i));
            }
            path.add(best[0]);
            can = next;
        }
        return path;
    }

    int need(int k) {
        if (crowded()) return SPENT;
        return layingIs(k) ? pathOf(k).size() : UNKNOWN;
    }

    int calls(int k, int i) {
        if (i < 0) return OUTSIDE;
        if (tooMany()) return SPENT;
        if (!layingIs(k)) return UNKNOWN;
        List<Integer> path = pathOf(k);
        return i < path.size() ? path.get(i) : NONE;
    }

    int hardest(int what) {
        if (what < 0 || what > 2) return OUTSIDE;
        if (crowded()) return SPENT;
        if (layingsAll().isEmpty()) return NONE;
        int number = NONE, most = -1, sum = 0;
        for (int k = 0; k < layingsAll().size(); k++) {
            int n = pathOf(k).size();
            sum += n;
            if (n > most) {
                most = n;
                number = k;
            }
        }
        return what == 0 ? number : what == 1 ? most : sum;
    }

    // ---- papers

    private boolean trueFor(int[] laying, int from, int to) {
        for (int c : wrong(laying)) if (c >= from && c < to) return false;
        return true;
    }

    int stray() {
        if (tooMany()) return SPENT;
        for (int c = 0; c < calls.size(); c++) {
            boolean any = false;
            for (int[] laying : layingsAll()) any |= trueFor(laying, 0, c + 1);
            if (!any && (told.get(c) != NONE || !layingsAll().isEmpty())) return c;
        }
        return NONE;
    }

    int blame() {
        if (tooMany()) return SPENT;
        int least = NONE;
        for (int[] laying : layingsAll()) {
            int n = wrong(laying).size();
            if (least == NONE || n < least) least = n;
        }
        return least;
    }

    int blamed() {
        if (tooMany()) return SPENT;
        for (int[] laying : layingsAll()) {
            List<Integer> all = wrong(laying);
            if (all.size() == blame()) return (int) bits(all);
        }
        return 0;
    }

    int switched(int what) {
        if (what != 0 && what != 1) return OUTSIDE;
        if (crowded()) return SPENT;
        for (int[] laying : layingsAll()) if (wrong(laying).isEmpty()) return NOT;
        Map<int[], List<Integer>> wrongs = new HashMap<>();
        for (int[] laying : layingsAll()) wrongs.put(laying, wrong(laying));
        for (int k = 0; k < calls.size(); k++) {
            for (int s = 0; s < ships.size(); s++) {
                for (int[] a : layingsAll()) {
                    boolean ahead = true;
                    for (int c : wrongs.get(a)) ahead &= c >= k;
                    if (!ahead) continue;
                    for (int[] b : layingsAll()) {
                        boolean alone = a[s] != b[s];
                        for (int t = 0; t < ships.size(); t++) if (t != s && a[t] != b[t]) alone = false;
                        boolean behind = true;
                        for (int c : wrongs.get(b)) behind &= c < k;
                        if (alone && behind) return what == 0 ? k : s;
                    }
                }
            }
        }
        return NONE;
    }

    // ---- rims

    int count(int r, int v) {
        if (!rimIs(r)) return UNKNOWN;
        if (v < 0 || v > 7) return OUTSIDE;
        Integer was = v == 7 ? counts.remove(r) : counts.put(r, v);
        return was == null ? NONE : was;
    }

    private Set<Integer> cellsOf(int[] laying) {
        Set<Integer> out = new TreeSet<>();
        for (int s = 0; s < laying.length; s++) out.addAll(spotsOf(s).get(laying[s]));
        return out;
    }

    private int countIn(int[] laying, int r) {
        int n = 0;
        for (int c : cellsOf(laying)) if (r < h ? c / w == r : c % w == r - h) n++;
        return n;
    }

    int rim(int k, int r) {
        if (!rimIs(r)) return UNKNOWN;
        if (tooMany()) return SPENT;
        return layingIs(k) ? countIn(layingsAll().get(k), r) : UNKNOWN;
    }

    int fitting() {
        if (tooMany()) return SPENT;
        int n = 0;
        for (int[] laying : layingsAll()) {
            boolean fits = true;
            for (Map.Entry<Integer, Integer> e : counts.entrySet()) {
                if (countIn(laying, e.getKey()) != e.getValue()) fits = false;
            }
            if (fits) n++;
        }
        return n;
    }

    int clues(int k) {
        if (crowded()) return SPENT;
        if (!layingIs(k)) return UNKNOWN;
        int[] mine = layingsAll().get(k);
        List<boolean[]> others = new ArrayList<>();
        for (int[] other : layingsAll()) {
            if (cellsOf(other).equals(cellsOf(mine))) continue;
            boolean[] unlike = new boolean[w + h];
            for (int r = 0; r < w + h; r++) unlike[r] = countIn(other, r) != countIn(mine, r);
            others.add(unlike);
        }
        for (int size = 0; size <= w + h; size++) {
            for (int set = 0; set < 1 << (w + h); set++) {
                if (Integer.bitCount(set) != size) continue;
                boolean good = true;
                for (boolean[] unlike : others) {
                    boolean parts = false;
                    for (int r = 0; r < w + h; r++) parts |= unlike[r] && (set >> r & 1) == 1;
                    if (!parts) {
                        good = false;
                        break;
                    }
                }
                if (good) return set;
            }
        }
        return NONE;
    }

    int many(int what) {
        switch (what) {
            case 0: return w * h;
            case 1: return ships.size();
            case 2: return calls.size();
            case 3: {
                int n = 0;
                for (int v : told) if (v != NONE) n++;
                return n;
            }
            case 4: return counts.size();
            default: return OUTSIDE;
        }
    }
}
