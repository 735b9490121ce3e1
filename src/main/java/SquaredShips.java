/** Hidden ships on squared paper, the calls upon them, and what can be told from the answers. */
public final class SquaredShips {
    public static final int NONE = -1, UNKNOWN = -2, OUTSIDE = -3, NOT = -4, FULL = -5, SPENT = -6;

    private static final int TOUCH = 0, SUNK = 1, LIES = 2;
    private static final int MOST_SHIPS = 3, MOST_CALLS = 30, MOST_CELLS = 36, MOST_RIMS = 12;
    private static final int MOST_LAYINGS = 10000, CROWD = 400;
    /** Eight ways of turning in 36 places. */
    private static final int MOST_SPOTS = 288;
    /** A laying is one number, nine bits for the spot of each ship, so that the numbers stand in order. */
    private static final int SPOT_BITS = 9, SPOT_MASK = 511;

    private final Sheet sheet;
    private final Fleet fleet;
    private final Register register;
    private final Paper paper;
    private final Play play;
    private final Ledger ledger;
    private final Pairs pairs;
    private final Caller caller;
    private final Inquiry inquiry;
    private final Edges edges;

    public SquaredShips() {
        sheet = new Sheet();
        fleet = new Fleet(sheet);
        register = new Register(sheet, fleet);
        paper = new Paper();
        play = new Play(sheet, fleet, register, paper);
        ledger = new Ledger(sheet, register, paper, play);
        pairs = new Pairs(register, ledger);
        caller = new Caller(sheet, fleet, register);
        inquiry = new Inquiry(fleet, register, paper, ledger);
        edges = new Edges(sheet, register);
    }

    // ---- grid, ships

    public int grid(int w, int h, boolean wraps) {
        if (!within(w, 2, 6) || !within(h, 2, 6)) {
            return OUTSIDE;
        }
        sheet.become(w, h, wraps);
        fleet.clear();
        paper.clear();
        edges.clear();
        layingsChanged();
        return sheet.cells;
    }

    public int ship(int shape, int turns) {
        if (!within(shape, 1, 65535) || Integer.bitCount(shape) > 5 || !within(turns, 0, 2)) {
            return OUTSIDE;
        }
        if (paper.size > 0) {
            return NOT;
        }
        if (fleet.size >= MOST_SHIPS) {
            return FULL;
        }
        int number = fleet.build(shape, turns);
        layingsChanged();
        return number;
    }

    public int set(int what, int v) {
        if (!within(what, TOUCH, LIES) || !within(v, 0, what == SUNK ? 1 : 2)) {
            return OUTSIDE;
        }
        int was = sheet.changeRule(what, v);
        if (what == TOUCH) {
            layingsChanged();
        } else if (what == SUNK) {
            caller.forget();
            callsChanged();
        } else {
            answersChanged();
        }
        return was;
    }

    public int drift(int dx, int dy) {
        if (!within(dx, -1, 1) || !within(dy, -1, 1)) {
            return OUTSIDE;
        }
        if (!sheet.round) {
            return NOT;
        }
        sheet.setDrift(dx, dy);
        callsChanged();
        return 1;
    }

    public int spots(int ship) {
        return isShip(ship) ? fleet.sizeOf(ship) : UNKNOWN;
    }

    public long spot(int ship, int k) {
        if (!isShip(ship)) {
            return UNKNOWN;
        }
        return within(k, 0, fleet.sizeOf(ship) - 1) ? fleet.cellsAt(ship, k) : OUTSIDE;
    }

    public int layings() {
        return tooMany() ? SPENT : register.size;
    }

    public int laid(int k, int ship) {
        if (!isShip(ship)) {
            return UNKNOWN;
        }
        if (tooMany()) {
            return SPENT;
        }
        return isLaying(k) ? spotIn(register.codeOf(k), ship) : UNKNOWN;
    }

    // ---- calls

    public int call(int cell) {
        return isCell(cell) ? noted(1L << cell) : UNKNOWN;
    }

    public int salvo(int a, int b) {
        if (!isCell(a) || !isCell(b)) {
            return UNKNOWN;
        }
        return a == b ? OUTSIDE : noted(1L << a | 1L << b);
    }

    public int answer(int call, int v) {
        if (!isCall(call)) {
            return UNKNOWN;
        }
        if (!within(v, 0, 2)) {
            return OUTSIDE;
        }
        int was = paper.toldAt(call);
        paper.tell(call, v);
        answersChanged();
        return was;
    }

    public int lose(int call) {
        if (!isCall(call)) {
            return UNKNOWN;
        }
        if (paper.toldAt(call) == NONE) {
            return NOT;
        }
        paper.untell(call);
        answersChanged();
        return 1;
    }

    public int back() {
        if (paper.size < 1) {
            return NOT;
        }
        paper.dropLast();
        callsChanged();
        return paper.size;
    }

    public int truth(int k, int call) {
        if (!isCall(call)) {
            return UNKNOWN;
        }
        if (tooMany()) {
            return SPENT;
        }
        if (!isLaying(k)) {
            return UNKNOWN;
        }
        return (int) (play.through(k, call + 1) >>> 2 * call & 3);
    }

    public long lies(int k, int ship, int n) {
        if (!isShip(ship)) {
            return UNKNOWN;
        }
        if (!within(n, 0, paper.size)) {
            return OUTSIDE;
        }
        if (tooMany()) {
            return SPENT;
        }
        if (!isLaying(k)) {
            return UNKNOWN;
        }
        play.through(k, n);
        return play.placeOf(ship);
    }

    // ---- what is left

    public int left() {
        return tooMany() ? SPENT : leftTally().total;
    }

    public int which(int i) {
        if (i < 0) {
            return OUTSIDE;
        }
        if (tooMany()) {
            return SPENT;
        }
        ledger.replay();
        return ledger.numberOfLeft(i);
    }

    public int there(int cell) {
        if (!isCell(cell)) {
            return UNKNOWN;
        }
        return tooMany() ? SPENT : leftTally().shipsAt(cell);
    }

    public long sure(int way) {
        if (!within(way, 0, 1)) {
            return OUTSIDE;
        }
        if (tooMany()) {
            return SPENT;
        }
        Tally tally = leftTally();
        return tally.cellsWith(way == 0 ? tally.total : 0, sheet.cells);
    }

    public int part(int cell, int answer) {
        if (!isCell(cell)) {
            return UNKNOWN;
        }
        if (!within(answer, 0, 2)) {
            return OUTSIDE;
        }
        return tooMany() ? SPENT : leftTally().inPart(cell, answer);
    }

    public int best(int what) {
        if (!within(what, 0, 1)) {
            return OUTSIDE;
        }
        if (tooMany()) {
            return SPENT;
        }
        Tally tally = leftTally();
        if (tally.total == 0) {
            return NONE;
        }
        int cell = tally.bestCell(sheet.cells);
        return what == 0 ? cell : tally.greatest(cell);
    }

    public int bestSalvo(int what) {
        if (!within(what, 0, 2)) {
            return OUTSIDE;
        }
        if (tooMany()) {
            return SPENT;
        }
        Tally tally = leftTally();
        if (tally.total == 0) {
            return NONE;
        }
        pairs.search(tally, sheet.cells);
        return what == 0 ? pairs.lesser : what == 1 ? pairs.greater : pairs.greatest;
    }

    // ---- the caller

    public int need(int k) {
        if (crowded()) {
            return SPENT;
        }
        if (!isLaying(k)) {
            return UNKNOWN;
        }
        caller.searchNeeds();
        return caller.needOf(k);
    }

    public int calls(int k, int i) {
        if (i < 0) {
            return OUTSIDE;
        }
        // The document tells CROWDED for need and hardest, but not here.
        if (tooMany()) {
            return SPENT;
        }
        if (!isLaying(k)) {
            return UNKNOWN;
        }
        caller.trace(k);
        return caller.cellAt(i);
    }

    public int hardest(int what) {
        if (!within(what, 0, 2)) {
            return OUTSIDE;
        }
        if (crowded()) {
            return SPENT;
        }
        if (register.size == 0) {
            return NONE;
        }
        caller.searchNeeds();
        if (what == 2) {
            return caller.allNeeds();
        }
        int number = caller.mostNeedy();
        return what == 0 ? number : caller.needOf(number);
    }

    // ---- papers

    public int stray() {
        if (tooMany()) {
            return SPENT;
        }
        ledger.replay();
        return inquiry.firstStray();
    }

    public int blame() {
        if (tooMany()) {
            return SPENT;
        }
        ledger.replay();
        int k = inquiry.leastWrong();
        return k == NONE ? NONE : Long.bitCount(ledger.wrongs(k));
    }

    public int blamed() {
        if (tooMany()) {
            return SPENT;
        }
        ledger.replay();
        int k = inquiry.leastWrong();
        return k == NONE ? 0 : inquiry.wrongCalls(k);
    }

    public int switched(int what) {
        if (!within(what, 0, 1)) {
            return OUTSIDE;
        }
        if (crowded()) {
            return SPENT;
        }
        ledger.replay();
        if (inquiry.someIsTrue()) {
            return NOT;
        }
        inquiry.searchSwitch();
        return what == 0 ? inquiry.switchCall : inquiry.switchShip;
    }

    // ---- rims

    public int count(int rim, int v) {
        if (!isRim(rim)) {
            return UNKNOWN;
        }
        return within(v, 0, 7) ? edges.tell(rim, v == 7 ? NONE : v) : OUTSIDE;
    }

    public int rim(int k, int rim) {
        if (!isRim(rim)) {
            return UNKNOWN;
        }
        if (tooMany()) {
            return SPENT;
        }
        return isLaying(k) ? edges.countIn(register.cellsOf(k), rim) : UNKNOWN;
    }

    public int fitting() {
        return tooMany() ? SPENT : edges.fittingLayings();
    }

    public int clues(int k) {
        if (crowded()) {
            return SPENT;
        }
        return isLaying(k) ? edges.fewestRims(k) : UNKNOWN;
    }

    public int many(int what) {
        switch (what) {
            case 0:
                return sheet.cells;
            case 1:
                return fleet.size;
            case 2:
                return paper.size;
            case 3:
                return Long.bitCount(paper.known);
            case 4:
                return edges.toldCounts();
            default:
                return OUTSIDE;
        }
    }

    // ---- what the calls have in common

    private int noted(long target) {
        if (paper.size >= MOST_CALLS) {
            return FULL;
        }
        int number = paper.add(target);
        callsChanged();
        return number;
    }

    private boolean isCell(int cell) {
        return within(cell, 0, sheet.cells - 1);
    }

    private boolean isShip(int ship) {
        return within(ship, 0, fleet.size - 1);
    }

    private boolean isCall(int call) {
        return within(call, 0, paper.size - 1);
    }

    private boolean isRim(int rim) {
        return within(rim, 0, sheet.rimTotal() - 1);
    }

    private boolean isLaying(int k) {
        return within(k, 0, register.size - 1);
    }

    /** Whether there are too many layings; if there are not, they are found. */
    private boolean tooMany() {
        if (fleet.combinations() > MOST_LAYINGS) {
            return true;
        }
        register.search();
        return false;
    }

    private boolean crowded() {
        return tooMany() || register.size > CROWD;
    }

    private Tally leftTally() {
        ledger.replay();
        ledger.countLeft();
        return ledger.tally;
    }

    private void layingsChanged() {
        register.forget();
        caller.forget();
        callsChanged();
    }

    private void callsChanged() {
        ledger.forgetPlays();
        answersChanged();
    }

    private void answersChanged() {
        ledger.forgetTally();
        pairs.forget();
    }

    private static boolean within(int v, int least, int most) {
        return v >= least && v <= most;
    }

    // ---- rows that are never read or written beyond their ends

    private static int at(int[] row, int i) {
        return i >= 0 && i < row.length ? row[i] : 0;
    }

    private static long at(long[] row, int i) {
        return i >= 0 && i < row.length ? row[i] : 0L;
    }

    private static void put(int[] row, int i, int v) {
        if (i >= 0 && i < row.length) {
            row[i] = v;
        }
    }

    private static void put(long[] row, int i, long v) {
        if (i >= 0 && i < row.length) {
            row[i] = v;
        }
    }

    private static void swap(int[] row, int i, int j) {
        int held = at(row, i);
        put(row, i, at(row, j));
        put(row, j, held);
    }

    /** Doubles, so that all rows ever made for ever more layings stay few and small together. */
    private static int grown(int had, int wanted) {
        return Math.max(0, Math.min(MOST_LAYINGS, Math.max(wanted, 2 * had)));
    }

    private static int spotIn(int code, int ship) {
        return code >> SPOT_BITS * (MOST_SHIPS - 1 - ship) & SPOT_MASK;
    }

    private static long onlyOne(long set) {
        return Long.bitCount(set) == 1 ? set : 0;
    }

    /** The grid and the rules upon it; sets of its cells are told by bits. */
    private static final class Sheet {
        private final int[] settings;
        private int dx;
        private int dy;
        private int wide;
        private int high;
        private boolean round;
        private int cells;
        private long all;
        private long firstColumn;
        private long lastColumn;

        Sheet() {
            settings = new int[3];
            put(settings, SUNK, 1);
            become(5, 5, false);
        }

        int rule(int what) {
            return at(settings, what);
        }

        int changeRule(int what, int v) {
            int was = at(settings, what);
            put(settings, what, v);
            return was;
        }

        void setDrift(int x, int y) {
            dx = x;
            dy = y;
        }

        void become(int w, int h, boolean wraps) {
            wide = w;
            high = h;
            round = wraps;
            cells = w * h;
            dx = 0;
            dy = 0;
            all = (1L << cells) - 1;
            firstColumn = 0;
            for (int y = 0; y < h; y++) {
                firstColumn |= 1L << (w * y);
            }
            lastColumn = firstColumn << (w - 1);
        }

        int rimTotal() {
            return high + wide;
        }

        long rimCells(int rim) {
            if (rim < high) {
                return ((1L << wide) - 1) << (wide * rim);
            }
            return firstColumn << (rim - high);
        }

        /** The set moved by -1 .. 1; what leaves the paper comes in again, if it wraps. */
        long movedAcross(long set, int step) {
            if (step == 0) {
                return set;
            }
            long leaving = set & (step > 0 ? lastColumn : firstColumn);
            long entering = round ? leaving : 0;
            long staying = set ^ leaving;
            if (step > 0) {
                return staying << 1 | entering >>> (wide - 1);
            }
            return staying >>> 1 | entering << (wide - 1);
        }

        long movedDown(long set, int step) {
            if (step == 0) {
                return set;
            }
            int far = cells - wide;
            if (step > 0) {
                return (set << wide | (round ? set >>> far : 0)) & all;
            }
            return (set >>> wide | (round ? set << far : 0)) & all;
        }

        /** The set and all cells that another ship must not have. */
        long around(long set) {
            int touch = at(settings, TOUCH);
            if (touch == 0) {
                return set;
            }
            long wider = set | movedAcross(set, 1) | movedAcross(set, -1);
            long carried = touch == 1 ? set : wider;
            return wider | movedDown(carried, 1) | movedDown(carried, -1);
        }

        /** The cells of a shape that is moved so, or 0, if it has no place there. */
        long placed(int shape, int right, int down) {
            long set = 0;
            for (int bit = 0; bit < 16; bit++) {
                if ((shape >> bit & 1) == 0) {
                    continue;
                }
                int x = wrapped((bit & 3) + right, wide);
                int y = wrapped((bit >> 2) + down, high);
                if (!within(x, 0, wide - 1) || !within(y, 0, high - 1)) {
                    return 0;
                }
                set |= 1L << (wide * y + x);
            }
            return Long.bitCount(set) == Integer.bitCount(shape) ? set : 0;
        }

        private int wrapped(int v, int size) {
            return round && size > 0 ? Math.floorMod(v, size) : v;
        }
    }

    /** The ships and their spots. */
    private static final class Fleet {
        private final Sheet sheet;
        /** The spots of each ship in a row, each ship's from its own start. */
        private final long[] sets;
        private final int[] sizes;
        private int size;

        Fleet(Sheet paper) {
            sheet = paper;
            sets = new long[MOST_SHIPS * MOST_SPOTS];
            sizes = new int[MOST_SHIPS];
        }

        void clear() {
            size = 0;
        }

        int build(int shape, int turns) {
            int ship = size;
            put(sizes, ship, 0);
            int turned = shape;
            for (int side = 0; side < (turns == 2 ? 2 : 1); side++) {
                for (int quarter = 0; quarter < (turns == 0 ? 1 : 4); quarter++) {
                    noteEverywhere(ship, turned);
                    turned = quarterTurned(turned);
                }
                turned = mirrored(turned);
            }
            size = ship + 1;
            return ship;
        }

        private void noteEverywhere(int ship, int shape) {
            // The bits of a shape need not begin at the corner of its square.
            for (int down = -3; down < sheet.high; down++) {
                for (int right = -3; right < sheet.wide; right++) {
                    long set = sheet.placed(shape, right, down);
                    if (set != 0) {
                        note(ship, set);
                    }
                }
            }
        }

        private void note(int ship, long set) {
            int start = MOST_SPOTS * ship;
            int held = at(sizes, ship);
            int place = held;
            while (place > 0 && at(sets, start + place - 1) >= set) {
                place--;
            }
            boolean known = place < held && at(sets, start + place) == set;
            if (known || held >= MOST_SPOTS) {
                return;
            }
            for (int i = held; i > place; i--) {
                put(sets, start + i, at(sets, start + i - 1));
            }
            put(sets, start + place, set);
            put(sizes, ship, held + 1);
        }

        private static int quarterTurned(int shape) {
            int turned = 0;
            for (int bit = 0; bit < 16; bit++) {
                int to = 4 * (bit & 3) + 3 - (bit >> 2);
                turned |= (shape >> bit & 1) << to;
            }
            return turned;
        }

        private static int mirrored(int shape) {
            int turned = 0;
            for (int bit = 0; bit < 16; bit++) {
                turned |= (shape >> bit & 1) << (bit ^ 3);
            }
            return turned;
        }

        /** A ship that is not there counts as one with a single spot of no cells. */
        int sizeOf(int ship) {
            return ship < size ? at(sizes, ship) : 1;
        }

        long cellsAt(int ship, int spot) {
            int i = MOST_SPOTS * ship + spot;
            return ship < size && i >= 0 && i < sets.length ? sets[i] : 0;
        }

        /** Where a ship lies by the laying of this number. */
        long cellsIn(int code, int ship) {
            int i = MOST_SPOTS * ship + spotIn(code, ship);
            return ship < size && i >= 0 && i < sets.length ? sets[i] : 0;
        }

        int combinations() {
            return sizeOf(0) * sizeOf(1) * sizeOf(2);
        }
    }

    /** All layings in order, found when they are first asked for. */
    private static final class Register {
        private final Sheet sheet;
        private final Fleet fleet;
        private int[] codes;
        private int size;
        private boolean known;

        Register(Sheet theSheet, Fleet theFleet) {
            sheet = theSheet;
            fleet = theFleet;
            codes = new int[0];
        }

        void forget() {
            known = false;
        }

        void search() {
            int most = fleet.combinations();
            if (known || most > MOST_LAYINGS) {
                return;
            }
            known = true;
            size = 0;
            if (most > codes.length) {
                codes = new int[grown(codes.length, most)];
            }
            int firsts = fleet.sizeOf(0);
            for (int a = 0; a < firsts; a++) {
                searchSecond(a, sheet.around(fleet.cellsAt(0, a)));
            }
        }

        private void searchSecond(int a, long barred) {
            int seconds = fleet.sizeOf(1);
            for (int b = 0; b < seconds; b++) {
                long set = fleet.cellsAt(1, b);
                if ((set & barred) == 0) {
                    searchThird(a << SPOT_BITS | b, barred | sheet.around(set));
                }
            }
        }

        private void searchThird(int ahead, long barred) {
            int thirds = fleet.sizeOf(2);
            for (int c = 0; c < thirds; c++) {
                if ((fleet.cellsAt(2, c) & barred) == 0) {
                    put(codes, size, ahead << SPOT_BITS | c);
                    size++;
                }
            }
        }

        int codeOf(int k) {
            return at(codes, k);
        }

        /** Where ships lie by laying k ahead of all calls. */
        long cellsOf(int k) {
            int code = at(codes, k);
            return fleet.cellsIn(code, 0) | fleet.cellsIn(code, 1) | fleet.cellsIn(code, 2);
        }
    }

    /** The calls, and what was answered: two bits for each call, one below the other. */
    private static final class Paper {
        private final long[] targets;
        private int size;
        private long answers;
        /** The lower one of each call's two bits, if its answer is told. */
        private long known;

        Paper() {
            targets = new long[MOST_CALLS];
        }

        void clear() {
            size = 0;
            answers = 0;
            known = 0;
        }

        int add(long target) {
            put(targets, size, target);
            size++;
            return size - 1;
        }

        void dropLast() {
            if (size > 0) {
                size--;
                untell(size);
            }
        }

        long targetOf(int call) {
            return at(targets, call);
        }

        int toldAt(int call) {
            if ((known >>> 2 * call & 1) == 0) {
                return NONE;
            }
            return (int) (answers >>> 2 * call & 3);
        }

        void tell(int call, int v) {
            untell(call);
            answers |= (long) v << 2 * call;
            known |= 1L << 2 * call;
        }

        void untell(int call) {
            answers &= ~(3L << 2 * call);
            known &= ~(1L << 2 * call);
        }
    }

    /** One laying at a time, played through the calls. */
    private static final class Play {
        private final Sheet sheet;
        private final Fleet fleet;
        private final Register register;
        private final Paper paper;
        private final long[] places;
        private final long[] hits;

        Play(Sheet theSheet, Fleet theFleet, Register theRegister, Paper thePaper) {
            sheet = theSheet;
            fleet = theFleet;
            register = theRegister;
            paper = thePaper;
            places = new long[MOST_SHIPS];
            hits = new long[MOST_SHIPS];
        }

        /** Plays laying k through the first n calls; their true answers, two bits for each. */
        long through(int k, int n) {
            int code = register.codeOf(k);
            for (int ship = 0; ship < MOST_SHIPS; ship++) {
                put(places, ship, fleet.cellsIn(code, ship));
                put(hits, ship, 0);
            }
            boolean drifting = sheet.dx != 0 || sheet.dy != 0;
            long truths = 0;
            for (int call = 0; call < n; call++) {
                long told = fire(paper.targetOf(call));
                truths |= told << 2 * call;
                if (told == 0 && drifting) {
                    move();
                }
            }
            return truths;
        }

        private int fire(long target) {
            int struck = 0;
            boolean sunk = false;
            for (int ship = 0; ship < MOST_SHIPS; ship++) {
                long place = at(places, ship);
                long here = place & target;
                if (here != 0) {
                    long before = at(hits, ship);
                    long now = before | here;
                    put(hits, ship, now);
                    struck += Long.bitCount(here);
                    sunk |= now != before && now == place;
                }
            }
            boolean single = Long.bitCount(target) == 1;
            return sunk && single && sheet.rule(SUNK) == 1 ? 2 : struck;
        }

        private void move() {
            long a = nextPlace(0);
            long b = nextPlace(1);
            long c = nextPlace(2);
            if ((a & b | a & c | b & c) == 0) {
                put(places, 0, a);
                put(places, 1, b);
                put(places, 2, c);
            }
        }

        private long nextPlace(int ship) {
            long place = at(places, ship);
            if (at(hits, ship) != 0) {
                return place;
            }
            return sheet.movedDown(sheet.movedAcross(place, sheet.dx), sheet.dy);
        }

        long placeOf(int ship) {
            return at(places, ship);
        }

        long allPlaces() {
            return at(places, 0) | at(places, 1) | at(places, 2);
        }

        /** The cells whose call would sink a ship now. */
        long sinkingCells() {
            long sinking = 0;
            for (int ship = 0; ship < MOST_SHIPS; ship++) {
                sinking |= onlyOne(at(places, ship) & ~at(hits, ship));
            }
            return sinking;
        }
    }

    /** How many layings have a ship in each cell, and how many would lose one there. */
    private static final class Tally {
        private final int[] ships;
        private final int[] sinkings;
        private int total;

        Tally() {
            ships = new int[MOST_CELLS];
            sinkings = new int[MOST_CELLS];
        }

        void clear() {
            total = 0;
            for (int cell = 0; cell < MOST_CELLS; cell++) {
                put(ships, cell, 0);
                put(sinkings, cell, 0);
            }
        }

        void add(long places, long sinking) {
            total++;
            countIn(ships, places);
            countIn(sinkings, sinking);
        }

        private static void countIn(int[] row, long set) {
            long rest = set;
            for (int n = 0; n < MOST_CELLS && rest != 0; n++) {
                int cell = Long.numberOfTrailingZeros(rest);
                put(row, cell, at(row, cell) + 1);
                rest &= rest - 1;
            }
        }

        int shipsAt(int cell) {
            return at(ships, cell);
        }

        long cellsWith(int n, int cells) {
            long set = 0;
            for (int cell = 0; cell < cells; cell++) {
                if (at(ships, cell) == n) {
                    set |= 1L << cell;
                }
            }
            return set;
        }

        int inPart(int cell, int answer) {
            if (answer == 0) {
                return total - at(ships, cell);
            }
            return answer == 1 ? at(ships, cell) - at(sinkings, cell) : at(sinkings, cell);
        }

        int greatest(int cell) {
            return Math.max(inPart(cell, 0), Math.max(inPart(cell, 1), inPart(cell, 2)));
        }

        int bestCell(int cells) {
            int best = 0;
            for (int cell = 1; cell < cells; cell++) {
                if (greatest(cell) < greatest(best)) {
                    best = cell;
                }
            }
            return best;
        }
    }

    /** What each laying comes to behind all calls, and those that are left. */
    private static final class Ledger {
        private final Sheet sheet;
        private final Register register;
        private final Paper paper;
        private final Play play;
        private final Tally tally;
        private long[] truths;
        private long[] places;
        private long[] sinkings;
        private boolean played;
        private boolean counted;

        Ledger(Sheet theSheet, Register theRegister, Paper thePaper, Play thePlay) {
            sheet = theSheet;
            register = theRegister;
            paper = thePaper;
            play = thePlay;
            tally = new Tally();
            truths = new long[0];
            places = new long[0];
            sinkings = new long[0];
        }

        void forgetPlays() {
            played = false;
        }

        void forgetTally() {
            counted = false;
        }

        /** Plays all layings through all calls. */
        void replay() {
            if (played) {
                return;
            }
            grow(register.size);
            boolean sinks = sheet.rule(SUNK) == 1;
            for (int k = 0; k < register.size; k++) {
                put(truths, k, play.through(k, paper.size));
                put(places, k, play.allPlaces());
                put(sinkings, k, sinks ? play.sinkingCells() : 0);
            }
            played = true;
        }

        private void grow(int wanted) {
            int length = grown(truths.length, wanted);
            if (wanted > truths.length && length > truths.length) {
                truths = new long[length];
                places = new long[length];
                sinkings = new long[length];
            }
        }

        void countLeft() {
            if (counted) {
                return;
            }
            tally.clear();
            for (int k = 0; k < register.size; k++) {
                if (isLeft(k)) {
                    tally.add(at(places, k), at(sinkings, k));
                }
            }
            counted = true;
        }

        long placesOf(int k) {
            return at(places, k);
        }

        /** The told answers other than true by laying k: of each such call the lower one of its two bits. */
        long wrongs(int k) {
            long unlike = at(truths, k) ^ paper.answers;
            return (unlike | unlike >>> 1) & paper.known;
        }

        boolean isLeft(int k) {
            return Long.bitCount(wrongs(k)) <= sheet.rule(LIES);
        }

        int numberOfLeft(int i) {
            int ahead = 0;
            for (int k = 0; k < register.size; k++) {
                if (isLeft(k)) {
                    if (ahead == i) {
                        return k;
                    }
                    ahead++;
                }
            }
            return NONE;
        }
    }

    /** The salvo that parts best the layings that are left. */
    private static final class Pairs {
        private final Register register;
        private final Ledger ledger;
        /** How many layings have ships in both cells of a pair. */
        private final int[] both;
        private boolean known;
        private int lesser;
        private int greater;
        private int greatest;

        Pairs(Register theRegister, Ledger theLedger) {
            register = theRegister;
            ledger = theLedger;
            both = new int[MOST_CELLS * MOST_CELLS];
        }

        void forget() {
            known = false;
        }

        void search(Tally tally, int cells) {
            if (known) {
                return;
            }
            countPairs();
            greatest = tally.total + 1;
            for (int a = 0; a < cells; a++) {
                for (int b = a + 1; b < cells; b++) {
                    int part = greatestPart(tally, a, b);
                    if (part < greatest) {
                        lesser = a;
                        greater = b;
                        greatest = part;
                    }
                }
            }
            known = true;
        }

        private int greatestPart(Tally tally, int a, int b) {
            int two = at(both, MOST_CELLS * a + b);
            int some = tally.shipsAt(a) + tally.shipsAt(b);
            return Math.max(two, Math.max(some - 2 * two, tally.total - some + two));
        }

        private void countPairs() {
            for (int i = 0; i < both.length; i++) {
                both[i] = 0;
            }
            for (int k = 0; k < register.size; k++) {
                if (ledger.isLeft(k)) {
                    countPairsIn(ledger.placesOf(k));
                }
            }
        }

        private void countPairsIn(long set) {
            long rest = set;
            for (int n = 0; n < MOST_CELLS && rest != 0; n++) {
                int a = Long.numberOfTrailingZeros(rest);
                rest &= rest - 1;
                long others = rest;
                for (int m = 0; m < MOST_CELLS && others != 0; m++) {
                    int pair = MOST_CELLS * a + Long.numberOfTrailingZeros(others);
                    put(both, pair, at(both, pair) + 1);
                    others &= others - 1;
                }
            }
        }
    }

    /** The one who calls best each time, and knows of no calls that were told. */
    private static final class Caller {
        private final Sheet sheet;
        private final Fleet fleet;
        private final Register register;
        private final Tally tally;
        /** Layings in an order in which those that can be yet stand side by side. */
        private int[] order;
        /** Where a group of layings ends, told at the place where it begins. */
        private final int[] ends;
        private final int[] needs;
        private final long[] called;
        private boolean needsKnown;
        /** The calls for one laying: no cell is called twice, as that parts nothing. */
        private final int[] path;
        private int pathLength;
        private int pathOwner;

        Caller(Sheet theSheet, Fleet theFleet, Register theRegister) {
            sheet = theSheet;
            fleet = theFleet;
            register = theRegister;
            tally = new Tally();
            order = new int[0];
            ends = new int[CROWD];
            needs = new int[CROWD];
            called = new long[CROWD];
            path = new int[MOST_CELLS];
            pathOwner = NONE;
        }

        void forget() {
            needsKnown = false;
            pathOwner = NONE;
        }

        int needOf(int k) {
            return at(needs, k);
        }

        int allNeeds() {
            int sum = 0;
            for (int k = 0; k < register.size; k++) {
                sum += at(needs, k);
            }
            return sum;
        }

        int mostNeedy() {
            int most = 0;
            for (int k = 1; k < register.size; k++) {
                if (at(needs, k) > at(needs, most)) {
                    most = k;
                }
            }
            return most;
        }

        int cellAt(int i) {
            return i < pathLength ? at(path, i) : NONE;
        }

        /** Makes the calls for laying k. */
        void trace(int k) {
            if (pathOwner == k) {
                return;
            }
            putInOrder();
            int end = register.size;
            long done = 0;
            pathOwner = k;
            pathLength = 0;
            for (int turn = 0; turn < MOST_CELLS; turn++) {
                int cell = chosen(0, end, done);
                if (cell == NONE) {
                    return;
                }
                put(path, turn, cell);
                pathLength = turn + 1;
                end = gathered(0, end, cell, done, answerOf(k, cell, done));
                done |= 1L << cell;
            }
        }

        /** Makes the calls for all layings. */
        void searchNeeds() {
            int total = register.size;
            if (needsKnown || total > CROWD) {
                return;
            }
            putInOrder();
            for (int k = 0; k < total; k++) {
                put(needs, k, 0);
                put(called, k, 0);
            }
            put(ends, 0, total);
            int from = 0;
            // Each turn splits a group or leaves one behind.
            for (int turn = 0; turn < 2 * CROWD && from < total; turn++) {
                int end = at(ends, from);
                if (!split(from, end)) {
                    from = end;
                }
            }
            needsKnown = true;
        }

        /** Makes the next call for a group of layings; false, if there is none. */
        private boolean split(int from, int end) {
            long done = at(called, at(order, from));
            int cell = chosen(from, end, done);
            if (cell == NONE) {
                return false;
            }
            int hit = gathered(from, end, cell, done, 0);
            int sunk = gathered(hit, end, cell, done, 1);
            for (int i = from; i < end; i++) {
                int k = at(order, i);
                put(needs, k, at(needs, k) + 1);
                put(called, k, done | 1L << cell);
            }
            beginGroup(from, hit);
            beginGroup(hit, sunk);
            beginGroup(sunk, end);
            return true;
        }

        private void beginGroup(int from, int end) {
            if (from < end) {
                put(ends, from, end);
            }
        }

        private void putInOrder() {
            int total = register.size;
            if (total > order.length) {
                order = new int[grown(order.length, total)];
            }
            for (int k = 0; k < total; k++) {
                put(order, k, k);
            }
        }

        /** The cell that is called for the layings from .. end - 1 of the order; NONE, if no call parts them. */
        private int chosen(int from, int end, long done) {
            if (end - from < 2) {
                return NONE;
            }
            tally.clear();
            for (int i = from; i < end; i++) {
                int k = at(order, i);
                tally.add(register.cellsOf(k), sinkingIn(k, done));
            }
            int cell = tally.bestCell(sheet.cells);
            return tally.greatest(cell) < end - from ? cell : NONE;
        }

        /** Puts first those layings that give this answer; where they end. */
        private int gathered(int from, int end, int cell, long done, int answer) {
            int to = from;
            for (int i = from; i < end; i++) {
                if (answerOf(at(order, i), cell, done) == answer) {
                    swap(order, i, to);
                    to++;
                }
            }
            return to;
        }

        private int answerOf(int k, int cell, long done) {
            if ((register.cellsOf(k) >>> cell & 1) == 0) {
                return 0;
            }
            return (sinkingIn(k, done) >>> cell & 1) == 0 ? 1 : 2;
        }

        private long sinkingIn(int k, long done) {
            if (sheet.rule(SUNK) == 0) {
                return 0;
            }
            int code = register.codeOf(k);
            long sinking = 0;
            for (int ship = 0; ship < MOST_SHIPS; ship++) {
                sinking |= onlyOne(fleet.cellsIn(code, ship) & ~done);
            }
            return sinking;
        }
    }

    /** What is wrong with the answers, where they are. */
    private static final class Inquiry {
        private final Fleet fleet;
        private final Register register;
        private final Paper paper;
        private final Ledger ledger;
        private int switchCall;
        private int switchShip;

        Inquiry(Fleet theFleet, Register theRegister, Paper thePaper, Ledger theLedger) {
            fleet = theFleet;
            register = theRegister;
            paper = thePaper;
            ledger = theLedger;
        }

        private static int firstCall(long bits) {
            return Long.numberOfTrailingZeros(bits) >> 1;
        }

        private static int lastCall(long bits) {
            return (63 - Long.numberOfLeadingZeros(bits)) >> 1;
        }

        int firstStray() {
            int total = register.size;
            if (total == 0) {
                return paper.known == 0 ? NONE : firstCall(paper.known);
            }
            int stray = NONE;
            for (int k = 0; k < total; k++) {
                long wrongs = ledger.wrongs(k);
                if (wrongs == 0) {
                    return NONE;
                }
                stray = Math.max(stray, firstCall(wrongs));
            }
            return stray;
        }

        boolean someIsTrue() {
            int k = leastWrong();
            return k != NONE && ledger.wrongs(k) == 0;
        }

        /** The first laying with the fewest told answers other than true. */
        int leastWrong() {
            int total = register.size;
            int least = NONE;
            int fewest = MOST_CALLS + 1;
            for (int k = 0; k < total; k++) {
                int wrongs = Long.bitCount(ledger.wrongs(k));
                if (wrongs < fewest) {
                    fewest = wrongs;
                    least = k;
                }
            }
            return least;
        }

        int wrongCalls(int k) {
            long wrongs = ledger.wrongs(k);
            int set = 0;
            for (int call = 0; call < MOST_CALLS; call++) {
                if ((wrongs >>> 2 * call & 1) != 0) {
                    set |= 1 << call;
                }
            }
            return set;
        }

        /** Only for papers by which no laying has all told answers true. */
        void searchSwitch() {
            int total = register.size;
            switchCall = NONE;
            switchShip = NONE;
            for (int ship = 0; ship < fleet.size; ship++) {
                for (int k = 0; k < total; k++) {
                    // Ahead of its last wrong answer a laying can't have been put; behind it, it can at once.
                    int call = lastCall(ledger.wrongs(k)) + 1;
                    boolean earlier = switchCall == NONE || call < switchCall;
                    if (earlier && comesFrom(k, ship, call, total)) {
                        switchCall = call;
                        switchShip = ship;
                    }
                }
            }
        }

        /** Whether a laying that differs from k by this ship alone is true ahead of the call. */
        private boolean comesFrom(int k, int ship, int call, int total) {
            int spot = SPOT_MASK << SPOT_BITS * (MOST_SHIPS - 1 - ship);
            int code = register.codeOf(k);
            for (int j = 0; j < total; j++) {
                int unlike = code ^ register.codeOf(j);
                boolean thisAlone = unlike != 0 && (unlike & ~spot) == 0;
                if (thisAlone && firstCall(ledger.wrongs(j)) >= call) {
                    return true;
                }
            }
            return false;
        }
    }

    /** The counts at the rims. */
    private static final class Edges {
        private final Sheet sheet;
        private final Register register;
        private final int[] told;
        /** One bit for each set of rims: whether another laying has the same counts in all rims but these. */
        private final long[] hidden;

        Edges(Sheet theSheet, Register theRegister) {
            sheet = theSheet;
            register = theRegister;
            told = new int[MOST_RIMS];
            hidden = new long[1 << MOST_RIMS - 6];
            clear();
        }

        void clear() {
            for (int rim = 0; rim < MOST_RIMS; rim++) {
                put(told, rim, NONE);
            }
        }

        int tell(int rim, int v) {
            int was = at(told, rim);
            put(told, rim, v);
            return was;
        }

        int toldCounts() {
            int n = 0;
            for (int rim = 0; rim < MOST_RIMS; rim++) {
                if (at(told, rim) != NONE) {
                    n++;
                }
            }
            return n;
        }

        int countIn(long set, int rim) {
            return Long.bitCount(set & sheet.rimCells(rim));
        }

        int fittingLayings() {
            int total = register.size;
            int n = 0;
            for (int k = 0; k < total; k++) {
                if (fits(register.cellsOf(k))) {
                    n++;
                }
            }
            return n;
        }

        private boolean fits(long set) {
            int rims = sheet.rimTotal();
            for (int rim = 0; rim < rims; rim++) {
                int due = at(told, rim);
                if (due != NONE && due != countIn(set, rim)) {
                    return false;
                }
            }
            return true;
        }

        int fewestRims(int k) {
            int sets = 1 << sheet.rimTotal();
            markUnlike(k);
            spread(sets);
            int fewest = NONE;
            for (int chosen = 0; chosen < sets; chosen++) {
                boolean fewer = fewest == NONE || Integer.bitCount(chosen) < Integer.bitCount(fewest);
                if (fewer && !isHidden(sets - 1 ^ chosen)) {
                    fewest = chosen;
                }
            }
            return fewest;
        }

        private void markUnlike(int k) {
            for (int i = 0; i < hidden.length; i++) {
                hidden[i] = 0;
            }
            long own = register.cellsOf(k);
            int total = register.size;
            for (int j = 0; j < total; j++) {
                long other = register.cellsOf(j);
                if (other != own) {
                    hide(unlikeRims(own, other));
                }
            }
        }

        private int unlikeRims(long own, long other) {
            int rims = sheet.rimTotal();
            int unlike = 0;
            for (int rim = 0; rim < rims; rim++) {
                if (countIn(own, rim) != countIn(other, rim)) {
                    unlike |= 1 << rim;
                }
            }
            return unlike;
        }

        /** What hides behind some rims hides behind more of them, too. */
        private void spread(int sets) {
            for (int rim = 0; rim < MOST_RIMS; rim++) {
                int bit = 1 << rim;
                for (int set = 0; set < sets; set++) {
                    if ((set & bit) != 0 && isHidden(set ^ bit)) {
                        hide(set);
                    }
                }
            }
        }

        private boolean isHidden(int set) {
            return (at(hidden, set >> 6) >>> (set & 63) & 1) != 0;
        }

        private void hide(int set) {
            put(hidden, set >> 6, at(hidden, set >> 6) | 1L << (set & 63));
        }
    }
}
