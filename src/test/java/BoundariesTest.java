/** The 35 promises, sentence by sentence, at their edges; what is refused comes back in the order that is told. */
public final class BoundariesTest {
    private static final int NONE = Sentences.NONE, UNKNOWN = Sentences.UNKNOWN, OUTSIDE = Sentences.OUTSIDE;
    private static final int NOT = Sentences.NOT, FULL = Sentences.FULL, SPENT = Sentences.SPENT;
    private static final int LOW = Sentences.LOW, HIGH = Sentences.HIGH;
    private static final Sentences s = new Sentences();

    private static long cells(int... numbers) {
        return Sentences.cells(numbers);
    }

    /** Ships, thirty calls and three counts on a paper that wraps, with every setting other than at first. */
    private static SquaredShips busy() {
        SquaredShips x = s.on(4, 3, true, 3, 1, 1, 0);
        x.set(0, 1);
        x.set(1, 0);
        x.set(2, 2);
        x.drift(1, -1);
        for (int n = 0; n < 30; n++) s.told(x, n % 12, n % 3 == 0 ? 1 : 0);
        x.count(0, 1);
        x.count(3, 1);
        x.count(6, 0);
        return x;
    }

    private static void first() {
        s.in("## Promise 1:");
        s.says("Five by five CELLS,", () -> {
            SquaredShips x = new SquaredShips();
            s.due("cells", x.many(0), 25);
            s.due("cell 24", x.part(24, 0), 1);
            s.due("cell 25", x.part(25, 0), UNKNOWN);
            s.due("rim 9", x.rim(0, 9), 0);
            s.due("rim 10", x.rim(0, 10), UNKNOWN);
        });
        s.says("no SHIPS.", () -> {
            SquaredShips x = new SquaredShips();
            for (int what = 1; what <= 4; what++) s.due("many " + what, x.many(what), 0);
            s.due("ship 0", x.spots(0), UNKNOWN);
            s.due("the first", x.ship(1, 0), 0);
        });
    }

    private static void grid() {
        s.in("## Promise 2:");
        s.says("THE GRID;", () -> {
            SquaredShips x = busy();
            s.due("narrow", x.grid(2, 6, false), 12);
            x.ship(0x1111, 0);
            s.due("three down, two across", x.spots(0), 6);
            s.due("wide", x.grid(6, 2, true), 12);
            x.ship(15, 0);
            s.due("six round, two down", x.spots(0), 12);
        });
        s.says("no SHIPS, CALLS, COUNTS any more,", () -> {
            SquaredShips x = busy();
            int[] had = {12, 2, 30, 30, 3};
            for (int what = 0; what < 5; what++) s.due("had " + what, x.many(what), had[what]);
            s.due("the same again", x.grid(4, 3, true), 12);
            for (int what = 1; what < 5; what++) s.due("none " + what, x.many(what), 0);
            s.due("no ship", x.spots(0), UNKNOWN);
            s.due("no call", x.lose(0), UNKNOWN);
            s.due("a ship is taken", x.ship(1, 0), 0);
            s.due("a call is taken", x.call(0), 0);
            s.due("it is lost", x.lose(0), NOT);
            for (int r : new int[] {0, 3, 6}) s.due("no count", x.count(r, 7), NONE);
            s.due("a ship of one spot more", s.on(2, 2, false, 51, 0).layings(), 1);
        });
        s.says("DRIFT 0:", () -> {
            SquaredShips x = busy();
            x.grid(4, 3, true);
            x.ship(1, 0);
            x.call(11);
            s.due("it stays", x.lies(0, 0, 1), cells(0));
            s.due("touch stays as set", x.set(0, 0), 1);
            s.due("sunk stays as set", x.set(1, 1), 0);
            s.due("lies stay as set", x.set(2, 0), 2);
        });
        s.says("how many CELLS. OUTSIDE.", () -> {
            SquaredShips x = busy();
            int[][] bad = {{1, 2}, {2, 1}, {7, 6}, {6, 7}, {0, 0}, {-3, -4}, {LOW, 3}, {3, HIGH}, {1, 7}};
            for (int[] b : bad) {
                s.due("grid", x.grid(b[0], b[1], false), OUTSIDE);
                s.due("grid", x.grid(b[0], b[1], true), OUTSIDE);
            }
            int[] had = {12, 2, 30, 30, 3};
            for (int what = 0; what < 5; what++) s.due("still " + what, x.many(what), had[what]);
            s.due("it wraps still", x.drift(1, -1), 1);
            s.due("count", x.count(0, 1), 1);
            s.due("least", x.grid(2, 2, false), 4);
            s.due("greatest", x.grid(6, 6, false), 36);
        });
    }

    private static void ship() {
        s.in("## Promise 3:");
        s.says("A SHIP: its number.", () -> {
            SquaredShips x = s.on(2, 2, false);
            s.due("the first", x.ship(1, 0), 0);
            s.due("one without a spot is one, too", x.ship(7, 0), 1);
            s.due("its spots", x.spots(1), 0);
            s.due("the third", x.ship(3, 2), 2);
            s.due("its spots", x.spots(2), 4);
        });
        s.says("OUTSIDE: shape (a number of 16 bits, 1 .. 5 of them set), turns;", () -> {
            SquaredShips x = s.on(5, 5, false);
            for (int bad : new int[] {LOW, -1, 0, 63, 0x7e00, 65535, 65536, 65537, 131072, 1 << 30, HIGH}) {
                s.due("shape " + bad, x.ship(bad, 0), OUTSIDE);
            }
            for (int bad : new int[] {LOW, -1, 3, 4, HIGH}) s.due("turns " + bad, x.ship(1, bad), OUTSIDE);
            s.due("none came", x.many(1), 0);
            s.due("bit 15", x.ship(32768, 0), 0);
            s.due("five", x.ship(0xf800, 2), 1);
            s.due("five on the diagonal and a corner", x.ship(0x8423, 1), 2);
        });
        s.says("NOT: there are CALLS;", () -> {
            SquaredShips x = s.on(3, 3, false, 1, 0);
            x.salvo(0, 1);
            s.due("one call", x.ship(1, 0), NOT);
            s.due("outside ahead", x.ship(0, 0), OUTSIDE);
            s.due("outside ahead", x.ship(1, 3), OUTSIDE);
            x.back();
            s.due("no more", x.ship(1, 0), 1);
            x.grid(3, 3, false);
            x.call(0);
            s.due("a call without ships", x.ship(1, 0), NOT);
            s.due("none came", x.many(1), 0);
        });
        s.says("FULL.", () -> {
            SquaredShips x = s.on(3, 3, false, 1, 0, 1, 0, 1, 0);
            s.due("three", x.ship(1, 0), FULL);
            s.due("outside ahead", x.ship(63, 0), OUTSIDE);
            s.due("outside ahead", x.ship(1, -1), OUTSIDE);
            x.call(0);
            s.due("not ahead", x.ship(1, 0), NOT);
            s.due("outside ahead of both", x.ship(65536, 0), OUTSIDE);
            s.due("three still", x.many(1), 3);
            x.grid(3, 3, false);
            s.due("the first", x.ship(1, 0), 0);
        });
    }

    private static void set() {
        s.in("## Promise 4:");
        s.says("TOUCH (what 0), SUNK (1), LIES (2): that which it was.", () -> {
            SquaredShips x = s.on(2, 2, false, 1, 0, 1, 0);
            int[][] steps = {{0, 1, 0}, {0, 2, 1}, {0, 0, 2}, {1, 0, 1}, {1, 0, 0}, {1, 1, 0}, {2, 1, 0}, {2, 2, 1}, {2, 0, 2}, {2, 0, 0}};
            for (int[] step : steps) s.due("set " + step[0] + " " + step[1], x.set(step[0], step[1]), step[2]);
            x.call(0);
            s.due("with calls, too", x.set(0, 1), 0);
            s.due("layings then", x.layings(), 4);
        });
        s.says("OUTSIDE.", () -> {
            SquaredShips x = busy();
            int[][] bad = {{LOW, 0}, {-1, 0}, {3, 0}, {HIGH, 1}, {0, -1}, {0, 3}, {1, -1}, {1, 2}, {2, -1}, {2, 3}, {0, LOW}, {1, HIGH}, {2, HIGH}, {3, 3}};
            for (int[] b : bad) s.due("set " + b[0] + " " + b[1], x.set(b[0], b[1]), OUTSIDE);
            s.due("touch as it was", x.set(0, 0), 1);
            s.due("sunk as it was", x.set(1, 1), 0);
            s.due("lies as they were", x.set(2, 0), 2);
        });
    }

    private static void drift() {
        s.in("## Promise 5:");
        s.says("DRIFT: 1.", () -> {
            SquaredShips x = s.on(3, 3, true, 1, 0);
            x.call(8);
            x.call(7);
            s.due("left and up", x.drift(-1, -1), 1);
            s.due("with calls, for all of them", x.lies(0, 0, 2), cells(4));
            s.due("none", x.drift(0, 0), 1);
            s.due("for all of them", x.lies(0, 0, 2), cells(0));
        });
        s.says("OUTSIDE;", () -> {
            SquaredShips x = s.on(3, 3, true, 1, 0);
            x.call(8);
            x.drift(1, 1);
            for (int bad : new int[] {LOW, -2, 2, HIGH}) {
                s.due("dx", x.drift(bad, 0), OUTSIDE);
                s.due("dy", x.drift(0, bad), OUTSIDE);
                s.due("both", x.drift(bad, bad), OUTSIDE);
            }
            s.due("as it was", x.lies(0, 0, 1), cells(4));
        });
        s.says("NOT: THE GRID does not WRAP.", () -> {
            SquaredShips x = s.on(3, 3, false, 1, 0);
            x.call(8);
            s.due("right", x.drift(1, 0), NOT);
            s.due("none", x.drift(0, 0), NOT);
            s.due("outside ahead", x.drift(2, 0), OUTSIDE);
            s.due("outside ahead", x.drift(0, -2), OUTSIDE);
            s.due("it stays", x.lies(0, 0, 1), cells(0));
        });
    }

    private static void spots() {
        s.in("## Promise 6:");
        s.says("How many SPOTS a SHIP has.", () -> {
            SquaredShips x = s.on(6, 6, true, 113, 2, 7, 0, 1, 0);
            s.due("the most", x.spots(0), 288);
            s.due("thirty-six", x.spots(1), 36);
            s.due("thirty-six", x.spots(2), 36);
            s.due("none", s.noLayings().spots(0), 0);
            s.due("though layings are too many", s.justTooMany().spots(2), 88);
        });
        s.says("UNKNOWN.", () -> {
            s.due("none at all", new SquaredShips().spots(0), UNKNOWN);
            SquaredShips x = s.on(2, 2, false, 1, 0, 1, 0);
            for (int bad : new int[] {LOW, -1, 2, 3, 4, HIGH}) s.due("ship " + bad, x.spots(bad), UNKNOWN);
            s.due("ship 3 of three", s.tooMany().spots(3), UNKNOWN);
        });
        s.in("## Promise 7:");
        s.says("A SPOT of a SHIP, by bits of CELLS.", () -> {
            SquaredShips x = s.on(6, 6, false, 1, 0, 31, 0);
            s.due("the first", x.spot(0, 0), 1);
            s.due("above 31", x.spot(0, 32), 1L << 32);
            s.due("the last", x.spot(0, 35), 1L << 35);
            s.due("the last", x.spot(1, 14), cells(26, 27, 28, 29, 32));
        });
        s.says("-2 UNKNOWN;", () -> {
            SquaredShips x = s.on(2, 2, false, 1, 0);
            for (int bad : new int[] {LOW, -1, 1, 2, HIGH}) {
                s.due("ship " + bad, x.spot(bad, 0), -2);
                s.due("ahead of outside", x.spot(bad, 4), -2);
            }
        });
        s.says("-3 OUTSIDE.", () -> {
            SquaredShips x = s.on(2, 2, false, 1, 0, 7, 0);
            for (int bad : new int[] {LOW, -1, 4, 5, 288, HIGH}) s.due("spot " + bad, x.spot(0, bad), -3);
            s.due("spot 3", x.spot(0, 3), 8);
            s.due("none has no spot 0", x.spot(1, 0), -3);
            s.due("spot 288 of 288", s.on(6, 6, true, 113, 2, 1, 0).spot(0, 288), -3);
        });
    }

    private static void layings() {
        s.in("## Promise 8:");
        s.says("How many LAYINGS there are.", () -> {
            s.due("without ships", new SquaredShips().layings(), 1);
            s.due("no room", s.noLayings().layings(), 0);
            s.due("the most of one", s.on(6, 6, true, 113, 2).layings(), 288);
            SquaredShips x = s.on(5, 5, false, 1, 0, 1, 0, 51, 0);
            s.due("of 10000", x.layings(), 16 * 21 * 20);
            s.told(x, 0, 2);
            s.due("whatever is told", x.layings(), 6720);
        });
        s.says("SPENT.", () -> {
            s.due("15625", s.tooMany().layings(), SPENT);
            s.due("10032", s.justTooMany().layings(), SPENT);
            s.holds("10000", s.justNotTooMany().layings() > 0);
        });
        s.in("## Promise 9:");
        s.says("The SPOT of a SHIP in LAYING k.", () -> {
            SquaredShips x = s.on(2, 2, false, 1, 0, 1, 0, 1, 0);
            int[][] due = {{0, 1, 2}, {0, 1, 3}, {0, 2, 1}, {0, 2, 3}, {0, 3, 1}, {0, 3, 2}, {1, 0, 2}};
            for (int k = 0; k < due.length; k++) {
                for (int ship = 0; ship < 3; ship++) s.due("laying " + k, x.laid(k, ship), due[k][ship]);
            }
            s.due("the last", x.laid(23, 2), 1);
            s.due("spot 287", s.on(6, 6, true, 113, 2).laid(287, 0), 287);
            x = s.on(6, 2, false, 31, 1, 113, 2);
            int last = x.layings() - 1;
            s.due("the last spot of the first", x.laid(last, 0), x.spots(0) - 1);
        });
        s.says("UNKNOWN: also no such LAYING;", () -> {
            SquaredShips x = s.on(2, 2, false, 1, 0, 1, 0);
            for (int bad : new int[] {LOW, -1, 2, 3, HIGH}) s.due("ship " + bad, x.laid(0, bad), UNKNOWN);
            for (int bad : new int[] {LOW, -1, 12, 13, HIGH}) s.due("laying " + bad, x.laid(bad, 0), UNKNOWN);
            s.due("laying 11", x.laid(11, 0), 3);
            s.due("no layings", s.noLayings().laid(0, 0), UNKNOWN);
            s.due("no ships", new SquaredShips().laid(0, 0), UNKNOWN);
        });
        s.says("SPENT (ahead, if the SHIP is there).", () -> {
            SquaredShips x = s.justTooMany();
            for (int k : new int[] {LOW, -1, 0, 10032, HIGH}) {
                s.due("laying " + k, x.laid(k, 2), SPENT);
                s.due("no ship", x.laid(k, 3), UNKNOWN);
                s.due("no ship", x.laid(k, -1), UNKNOWN);
            }
        });
    }

    private static void calls() {
        s.in("## Promise 10:");
        s.says("A CALL of one CELL: its number (its ANSWER is LOST yet).", () -> {
            SquaredShips x = s.on(3, 2, false, 3, 0);
            s.due("first", x.call(0), 0);
            s.due("the same cell", x.call(0), 1);
            s.due("the last cell", x.call(5), 2);
            for (int c = 0; c < 3; c++) s.due("lost", x.lose(c), NOT);
            s.due("all are left", x.left(), 4);
            x.answer(2, 2);
            x.back();
            s.due("again", x.call(5), 2);
            s.due("lost again", x.answer(2, 0), NONE);
            s.due("where layings are too many, too", s.tooMany().call(24), 0);
            s.due("without layings, too", s.noLayings().call(3), 0);
        });
        s.says("UNKNOWN;", () -> {
            SquaredShips x = s.on(3, 2, false, 3, 0);
            for (int bad : new int[] {LOW, -1, 6, 7, 36, 64, HIGH}) s.due("cell " + bad, x.call(bad), UNKNOWN);
            s.due("none came", x.many(2), 0);
            x = s.on(6, 6, false);
            s.due("cell 36", x.call(36), UNKNOWN);
            s.due("cell 35", x.call(35), 0);
        });
        s.says("FULL.", () -> {
            SquaredShips x = busy();
            s.due("thirty", x.call(0), FULL);
            s.due("unknown ahead", x.call(12), UNKNOWN);
            s.due("unknown ahead", x.call(-1), UNKNOWN);
            s.due("thirty", x.many(2), 30);
            s.due("all told", x.many(3), 30);
            x.back();
            s.due("one more", x.call(0), 29);
        });
        s.in("## Promise 11:");
        s.says("A SALVO: its number (likewise).", () -> {
            SquaredShips x = s.on(3, 2, false, 3, 0);
            x.call(0);
            s.due("behind a call", x.salvo(0, 5), 1);
            s.due("the other way", x.salvo(5, 0), 2);
            s.due("lost", x.answer(1, 1), NONE);
            s.due("0, 1 or 4, 5", x.left(), 2);
            s.due("the same", x.answer(2, 1), NONE);
            s.due("the same are left", x.left(), 2);
            s.due("on the last cells", s.on(6, 6, false).salvo(34, 35), 0);
        });
        s.says("UNKNOWN;", () -> {
            SquaredShips x = s.on(3, 2, false, 3, 0);
            for (int bad : new int[] {LOW, -1, 6, 7, 36, 64, HIGH}) {
                s.due("a " + bad, x.salvo(bad, 0), UNKNOWN);
                s.due("b " + bad, x.salvo(0, bad), UNKNOWN);
                s.due("ahead of outside", x.salvo(bad, bad), UNKNOWN);
            }
            s.due("none came", x.many(2), 0);
            SquaredShips full = busy();
            s.due("ahead of full", full.salvo(12, 0), UNKNOWN);
            s.due("ahead of full", full.salvo(0, 12), UNKNOWN);
        });
        s.says("OUTSIDE: one and itself;", () -> {
            SquaredShips x = s.on(3, 2, false, 3, 0);
            for (int c = 0; c < 6; c++) s.due("cell " + c, x.salvo(c, c), OUTSIDE);
            s.due("none came", x.many(2), 0);
            s.due("ahead of full", busy().salvo(3, 3), OUTSIDE);
        });
        s.says("FULL.", () -> {
            SquaredShips x = busy();
            s.due("thirty", x.salvo(0, 1), FULL);
            s.due("thirty", x.many(2), 30);
            x.back();
            s.due("one more", x.salvo(0, 1), 29);
        });
    }

    private static void answers() {
        s.in("## Promise 12:");
        s.says("The ANSWER of a CALL is told: which it was;", () -> {
            SquaredShips x = s.on(2, 2, false, 3, 0);
            for (int n = 0; n < 30; n++) x.call(0);
            x.answer(0, 2);
            x.answer(29, 2);
            x.answer(28, 1);
            int[] steps = {2, 0, 0, 1, 2, 1, 0, 2};
            int was = 2;
            for (int v : steps) {
                s.due("which it was", x.answer(29, v), was);
                was = v;
            }
            s.due("the one ahead", x.answer(28, 1), 1);
            s.due("the first", x.answer(0, 1), 2);
            s.due("three are told", x.many(3), 3);
        });
        s.says("NONE: it was LOST.", () -> {
            SquaredShips x = s.on(2, 2, false, 3, 0);
            x.call(0);
            x.salvo(0, 1);
            s.due("never told", x.answer(0, 0), NONE);
            s.due("the other", x.answer(1, 2), NONE);
            x.lose(1);
            s.due("lost", x.answer(1, 0), NONE);
            s.due("told", x.answer(1, 0), 0);
        });
        s.says("UNKNOWN;", () -> {
            SquaredShips x = s.on(2, 2, false, 3, 0);
            s.due("no calls", x.answer(0, 0), UNKNOWN);
            x.call(0);
            for (int bad : new int[] {LOW, -1, 1, 29, 30, 32, HIGH}) {
                s.due("call " + bad, x.answer(bad, 0), UNKNOWN);
                s.due("ahead of outside", x.answer(bad, 3), UNKNOWN);
            }
            s.due("none told", x.many(3), 0);
            s.due("call 30 of thirty", busy().answer(30, 0), UNKNOWN);
        });
        s.says("OUTSIDE.", () -> {
            SquaredShips x = s.on(2, 2, false, 3, 0);
            x.call(0);
            x.call(1);
            x.answer(0, 1);
            for (int bad : new int[] {LOW, -1, 3, 4, HIGH}) {
                s.due("v " + bad, x.answer(0, bad), OUTSIDE);
                s.due("v " + bad, x.answer(1, bad), OUTSIDE);
            }
            s.due("1 still", x.answer(0, 1), 1);
            s.due("lost still", x.lose(1), NOT);
        });
        s.in("## Promise 13:");
        s.says("The ANSWER of a CALL is LOST: 1.", () -> {
            SquaredShips x = s.on(2, 2, false, 3, 0);
            s.told(x, 0, 0);
            s.told(x, 1, 2);
            s.told(x, 2, 2);
            s.due("the middle one", x.lose(1), 1);
            s.due("two are told", x.many(3), 2);
            s.due("the calls stay", x.many(2), 3);
            s.due("the others stay", x.answer(0, 1), 0);
            s.due("the others stay", x.answer(2, 0), 2);
            s.due("0, 1 is left", x.left(), 1);
        });
        s.says("UNKNOWN;", () -> {
            SquaredShips x = s.on(2, 2, false, 3, 0);
            s.due("no calls", x.lose(0), UNKNOWN);
            s.told(x, 0, 0);
            for (int bad : new int[] {LOW, -1, 1, 30, 32, HIGH}) s.due("call " + bad, x.lose(bad), UNKNOWN);
            s.due("told still", x.many(3), 1);
        });
        s.says("NOT: it is.", () -> {
            SquaredShips x = s.on(2, 2, false, 3, 0);
            s.told(x, 0, 0);
            x.call(1);
            s.due("never told", x.lose(1), NOT);
            s.due("told as 0", x.lose(0), 1);
            s.due("lost", x.lose(0), NOT);
            s.due("none is told", x.many(3), 0);
        });
        s.in("## Promise 14:");
        s.says("The last CALL goes: how many are left.", () -> {
            SquaredShips x = busy();
            for (int n = 29; n >= 0; n--) {
                s.due("back", x.back(), n);
                s.due("answers go with it", x.many(3), n);
            }
            s.due("the ships stay", x.many(1), 2);
            s.due("the counts stay", x.many(4), 3);
            x = s.on(2, 2, true, 1, 0);
            x.drift(1, 0);
            s.told(x, 3, 0);
            s.told(x, 3, 0);
            s.due("behind two", x.lies(0, 0, 2), cells(0));
            x.back();
            s.due("behind one", x.lies(0, 0, 1), cells(1));
            s.due("only one", x.lies(0, 0, 2), OUTSIDE);
            s.due("three are left", x.left(), 3);
        });
        s.says("NOT: there is none.", () -> {
            SquaredShips x = s.on(2, 2, false, 3, 0);
            s.due("none", x.back(), NOT);
            x.salvo(0, 1);
            s.due("one", x.back(), 0);
            s.due("none", x.back(), NOT);
            s.due("none", x.many(2), 0);
        });
    }

    private static void truths() {
        s.in("## Promise 15:");
        s.says("TRUE ANSWER of a CALL by LAYING k.", () -> {
            SquaredShips x = s.on(2, 2, false, 3, 0);
            for (int n = 0; n < 30; n++) x.call(n == 28 ? 1 : n % 2 * 2);
            s.due("the first", x.truth(0, 0), 1);
            s.due("sunk at last", x.truth(0, 28), 2);
            s.due("missed", x.truth(0, 29), 0);
            s.due("by the other", x.truth(1, 29), 1);
            s.due("by the other", x.truth(1, 28), 0);
            x.answer(28, 0);
            s.due("whatever is told", x.truth(0, 28), 2);
        });
        s.says("UNKNOWN;", () -> {
            SquaredShips x = s.on(2, 2, false, 3, 0);
            s.due("no calls", x.truth(0, 0), UNKNOWN);
            x.call(0);
            for (int bad : new int[] {LOW, -1, 1, 30, HIGH}) s.due("call " + bad, x.truth(0, bad), UNKNOWN);
            for (int bad : new int[] {LOW, -1, 2, 3, HIGH}) s.due("laying " + bad, x.truth(bad, 0), UNKNOWN);
            s.due("laying 1", x.truth(1, 0), 0);
            x = s.noLayings();
            x.call(0);
            s.due("no layings", x.truth(0, 0), UNKNOWN);
        });
        s.says("SPENT (ahead of no such LAYING).", () -> {
            SquaredShips x = s.justTooMany();
            s.due("no call ahead", x.truth(0, 0), UNKNOWN);
            x.call(0);
            for (int k : new int[] {LOW, -1, 0, 10032, HIGH}) {
                s.due("laying " + k, x.truth(k, 0), SPENT);
                s.due("no call ahead", x.truth(k, 1), UNKNOWN);
                s.due("no call ahead", x.truth(k, -1), UNKNOWN);
            }
        });
        s.in("## Promise 16:");
        s.says("Where a SHIP lies by LAYING k behind the first n CALLS (bits of CELLS).", () -> {
            SquaredShips x = s.on(6, 6, true, 3, 0, 1, 0);
            x.drift(1, 1);
            x.call(18);
            x.call(0);
            s.due("laying 1: the second at 3", x.lies(1, 1, 0), cells(3));
            s.due("both moved", x.lies(1, 0, 1), cells(7, 8));
            s.due("both moved", x.lies(1, 1, 1), cells(10));
            s.due("twice", x.lies(1, 0, 2), cells(14, 15));
            s.due("the last came round to 0 and was hit", x.lies(33, 1, 1), cells(0));
            s.due("it stays", x.lies(33, 1, 2), cells(0));
            s.due("then none moves", x.lies(33, 0, 2), cells(7, 8));
            s.due("the last laying", x.lies(1223, 0, 0), cells(34, 35));
            s.due("the last laying", x.lies(1223, 1, 0), cells(33));
            s.due("over both rims", x.lies(1223, 0, 1), cells(0, 5));
            s.due("over the lower rim", x.lies(1223, 1, 1), cells(4));
        });
        s.says("-2 UNKNOWN;", () -> {
            SquaredShips x = s.on(2, 2, false, 3, 0);
            x.call(0);
            for (int bad : new int[] {LOW, -1, 1, 3, HIGH}) {
                s.due("ship " + bad, x.lies(0, bad, 0), -2);
                s.due("ahead of outside", x.lies(0, bad, 2), -2);
            }
            for (int bad : new int[] {LOW, -1, 2, 3, HIGH}) s.due("laying " + bad, x.lies(bad, 0, 0), -2);
            s.due("no layings", s.noLayings().lies(0, 0, 0), -2);
            s.due("no ships", new SquaredShips().lies(0, 0, 0), -2);
        });
        s.says("-3 OUTSIDE: n is not 0 .. CALLS;", () -> {
            SquaredShips x = s.on(2, 2, false, 3, 0);
            s.due("none", x.lies(0, 0, 0), 3);
            s.due("one", x.lies(0, 0, 1), -3);
            for (int c = 0; c < 30; c++) x.call(0);
            s.due("thirty", x.lies(0, 0, 30), 3);
            for (int bad : new int[] {LOW, -1, 31, 32, HIGH}) s.due("n " + bad, x.lies(0, 0, bad), -3);
        });
        s.says("-6 SPENT (ahead of no such LAYING).", () -> {
            SquaredShips x = s.justTooMany();
            x.call(0);
            for (int k : new int[] {LOW, -1, 0, 10032, HIGH}) {
                s.due("laying " + k, x.lies(k, 0, 1), -6);
                s.due("outside ahead", x.lies(k, 0, 2), -3);
                s.due("outside ahead", x.lies(k, 0, -1), -3);
                s.due("no ship ahead", x.lies(k, 3, 0), -2);
            }
        });
    }

    private static void left() {
        s.in("## Promise 17:");
        s.says("How many LAYINGS are LEFT.", () -> {
            SquaredShips x = s.on(3, 3, false, 1, 0);
            s.due("no calls", x.left(), 9);
            for (int c = 0; c < 9; c++) {
                s.told(x, c, 0);
                s.due("one less", x.left(), 8 - c);
            }
            s.due("no layings", s.noLayings().left(), 0);
        });
        s.says("SPENT.", () -> {
            s.due("10032", s.justTooMany().left(), SPENT);
            SquaredShips x = s.justNotTooMany();
            s.due("10000", x.left(), x.layings());
        });
        s.in("## Promise 18:");
        s.says("The number (of all LAYINGS) of LAYING i (from 0) of those LEFT;", () -> {
            SquaredShips x = s.on(3, 3, false, 1, 0);
            for (int i = 0; i < 9; i++) s.due("all", x.which(i), i);
            s.told(x, 0, 0);
            s.told(x, 4, 0);
            int[] due = {1, 2, 3, 5, 6, 7, 8};
            for (int i = 0; i < 7; i++) s.due("left", x.which(i), due[i]);
        });
        s.says("NONE: not so many.", () -> {
            SquaredShips x = s.on(3, 3, false, 1, 0);
            s.due("nine", x.which(9), NONE);
            s.told(x, 0, 0);
            s.due("the last", x.which(7), 8);
            s.due("eight", x.which(8), NONE);
            s.due("far", x.which(HIGH), NONE);
            x.answer(0, 1);
            s.due("none is left", x.which(0), NONE);
            s.due("no layings", s.noLayings().which(0), NONE);
        });
        s.says("OUTSIDE: i below 0;", () -> {
            SquaredShips x = s.on(3, 3, false, 1, 0);
            s.due("-1", x.which(-1), OUTSIDE);
            s.due("-2", x.which(-2), OUTSIDE);
            s.due("far", x.which(LOW), OUTSIDE);
            s.due("ahead of spent", s.tooMany().which(-1), OUTSIDE);
        });
        s.says("SPENT.", () -> {
            s.due("10032", s.justTooMany().which(0), SPENT);
            s.due("10032", s.justTooMany().which(HIGH), SPENT);
            s.due("10000", s.justNotTooMany().which(0), 0);
        });
    }

    private static void there() {
        s.in("## Promise 19:");
        s.says("THERE in a CELL.", () -> {
            SquaredShips x = s.on(6, 6, true, 1, 0);
            x.drift(1, 1);
            s.due("the last", x.there(35), 1);
            s.told(x, 0, 0);
            s.due("the one that lay at 35", x.there(0), 1);
            s.due("none comes from 0", x.there(7), 0);
            x.answer(0, 1);
            s.due("none is left", x.there(0), 0);
            s.due("no layings", s.noLayings().there(3), 0);
        });
        s.says("UNKNOWN;", () -> {
            SquaredShips x = s.on(3, 2, false, 1, 0);
            for (int bad : new int[] {LOW, -1, 6, 7, 36, HIGH}) s.due("cell " + bad, x.there(bad), UNKNOWN);
            s.due("ahead of spent", s.tooMany().there(25), UNKNOWN);
            s.due("ahead of spent", s.tooMany().there(-1), UNKNOWN);
        });
        s.says("SPENT.", () -> {
            s.due("10032", s.justTooMany().there(23), SPENT);
            s.holds("10000", s.justNotTooMany().there(9) > 0);
        });
        s.in("## Promise 20:");
        s.says("SURE CELLS with SHIPS (way 0), without (1), by bits;", () -> {
            SquaredShips x = s.on(6, 6, false, 1, 0);
            s.told(x, 35, 2);
            s.due("the last", x.sure(0), 1L << 35);
            s.due("the others", x.sure(1), (1L << 35) - 1);
            x = s.on(2, 2, true, 1, 0);
            x.drift(0, 1);
            s.told(x, 0, 0);
            s.told(x, 1, 0);
            s.told(x, 3, 0);
            // From 1 to 3, to 1, to 3, or from 2 to 0, to 2, to 0; from 3 to 1 it would have been hit.
            s.due("two are left", x.sure(0), 0);
            s.due("behind all calls", x.sure(1), cells(1, 2));
            s.told(x, 0, 2);
            s.due("it is at 0", x.sure(0), cells(0));
            s.due("and nowhere else", x.sure(1), cells(1, 2, 3));
            s.due("empty without ships", new SquaredShips().sure(1), (1L << 25) - 1);
        });
        s.says("all CELLS, if none is LEFT.", () -> {
            SquaredShips x = s.on(6, 6, false, 1, 0);
            s.told(x, 35, 1);
            s.due("all thirty-six", x.sure(0), (1L << 36) - 1);
            s.due("all thirty-six", x.sure(1), (1L << 36) - 1);
            s.due("no layings", s.noLayings().sure(0), 15);
            s.due("no layings", s.noLayings().sure(1), 15);
        });
        s.says("-3 OUTSIDE;", () -> {
            for (int bad : new int[] {LOW, -1, 2, 3, HIGH}) {
                s.due("way " + bad, new SquaredShips().sure(bad), -3);
                s.due("ahead of spent", s.tooMany().sure(bad), -3);
            }
        });
        s.says("-6 SPENT.", () -> {
            s.due("10032", s.justTooMany().sure(0), -6);
            s.due("10032", s.justTooMany().sure(1), -6);
            s.holds("10000", s.justNotTooMany().sure(0) >= 0);
        });
    }

    private static void parts() {
        s.in("## Promise 21:");
        s.says("The PART with a TRUE ANSWER (0 .. 2) of a CALL of a CELL, if it came now: how many.", () -> {
            SquaredShips x = s.on(3, 2, false, 3, 0, 1, 0);
            int[] due = {9, 4, 3};
            for (int v = 0; v < 3; v++) s.due("of cell 0", x.part(0, v), due[v]);
            s.told(x, 1, 1);
            int[] then = {3, 0, 5};
            for (int v = 0; v < 3; v++) s.due("of cell 0", x.part(0, v), then[v]);
            s.told(x, 0, 0);
            s.due("1, 2: sunk at 2", x.part(2, 2), 3);
            s.due("1: hit again", x.part(1, 1), 3);
            x.answer(1, 1);
            for (int v = 0; v < 3; v++) s.due("none is left", x.part(0, v), 0);
            s.due("the last cell", s.on(6, 6, false, 1, 0).part(35, 2), 1);
        });
        s.says("UNKNOWN;", () -> {
            SquaredShips x = s.on(3, 2, false, 1, 0);
            for (int bad : new int[] {LOW, -1, 6, 7, 36, HIGH}) {
                s.due("cell " + bad, x.part(bad, 0), UNKNOWN);
                s.due("ahead of outside", x.part(bad, 3), UNKNOWN);
            }
            s.due("ahead of spent", s.tooMany().part(25, 0), UNKNOWN);
            s.due("ahead of both", s.tooMany().part(25, 3), UNKNOWN);
        });
        s.says("OUTSIDE;", () -> {
            SquaredShips x = s.on(3, 2, false, 1, 0);
            for (int bad : new int[] {LOW, -1, 3, 4, HIGH}) {
                s.due("answer " + bad, x.part(0, bad), OUTSIDE);
                s.due("ahead of spent", s.tooMany().part(0, bad), OUTSIDE);
            }
        });
        s.says("SPENT.", () -> {
            for (int v = 0; v < 3; v++) s.due("10032", s.justTooMany().part(0, v), SPENT);
            s.holds("10000", s.justNotTooMany().part(0, 0) > 0);
        });
    }

    private static void best() {
        s.in("## Promise 22:");
        s.says("BEST CALL: the CELL (what 0), its greatest PART (1);", () -> {
            SquaredShips x = s.on(3, 3, false, 7, 0);
            s.due("any parts one of three; the least", x.best(0), 0);
            s.due("two", x.best(1), 2);
            s.told(x, 0, 0);
            s.due("the row 0 is known", x.best(0), 3);
            s.due("one each", x.best(1), 1);
            s.told(x, 8, 0);
            s.due("none parts", x.best(0), 0);
            s.due("one", x.best(1), 1);
        });
        s.says("NONE: none is LEFT.", () -> {
            SquaredShips x = s.on(3, 3, false, 7, 0);
            s.told(x, 0, 2);
            s.due("the cell", x.best(0), NONE);
            s.due("the part", x.best(1), NONE);
            s.due("no layings", s.noLayings().best(0), NONE);
            s.due("no layings", s.noLayings().best(1), NONE);
        });
        s.says("OUTSIDE;", () -> {
            for (int bad : new int[] {LOW, -1, 2, 3, HIGH}) {
                s.due("what " + bad, new SquaredShips().best(bad), OUTSIDE);
                s.due("ahead of spent", s.tooMany().best(bad), OUTSIDE);
                s.due("ahead of none", s.noLayings().best(bad), OUTSIDE);
            }
        });
        s.says("SPENT.", () -> {
            s.due("10032", s.justTooMany().best(0), SPENT);
            s.due("10032", s.justTooMany().best(1), SPENT);
            s.holds("10000", s.justNotTooMany().best(1) > 0);
        });
        s.in("## Promise 23:");
        s.says("BEST SALVO: lesser CELL (what 0), greater one (1), its greatest PART (2);", () -> {
            SquaredShips x = s.on(3, 3, false, 7, 0);
            int[] due = {0, 1, 2};
            for (int what = 0; what < 3; what++) s.due("one row of three", x.bestSalvo(what), due[what]);
            s.told(x, 0, 0);
            int[] then = {0, 3, 1};
            for (int what = 0; what < 3; what++) s.due("any and one of row 1", x.bestSalvo(what), then[what]);
            x = s.on(2, 2, false, 1, 0);
            s.told(x, 0, 0);
            s.told(x, 1, 0);
            s.told(x, 2, 0);
            int[] one = {0, 1, 1};
            for (int what = 0; what < 3; what++) s.due("one is left", x.bestSalvo(what), one[what]);
        });
        s.says("NONE: none is LEFT.", () -> {
            SquaredShips x = s.on(3, 3, false, 7, 0);
            s.told(x, 0, 2);
            for (int what = 0; what < 3; what++) {
                s.due("none is left", x.bestSalvo(what), NONE);
                s.due("no layings", s.noLayings().bestSalvo(what), NONE);
            }
        });
        s.says("OUTSIDE;", () -> {
            for (int bad : new int[] {LOW, -1, 3, 4, HIGH}) {
                s.due("what " + bad, new SquaredShips().bestSalvo(bad), OUTSIDE);
                s.due("ahead of spent", s.tooMany().bestSalvo(bad), OUTSIDE);
                s.due("ahead of none", s.noLayings().bestSalvo(bad), OUTSIDE);
            }
        });
        s.says("SPENT.", () -> {
            for (int what = 0; what < 3; what++) s.due("10032", s.justTooMany().bestSalvo(what), SPENT);
            s.holds("10000", s.justNotTooMany().bestSalvo(2) > 0);
        });
    }

    private static void caller() {
        s.in("## Promise 24:");
        s.says("NEED of LAYING k.", () -> {
            SquaredShips x = s.on(6, 6, false, 1, 0);
            for (int k = 0; k < 36; k++) s.due("need", x.need(k), k < 35 ? k + 1 : 35);
            s.due("the one empty laying", new SquaredShips().need(0), 0);
        });
        s.says("SPENT: TOO MANY, CROWDED;", () -> {
            s.due("10032", s.justTooMany().need(0), SPENT);
            s.due("10000, a crowd", s.justNotTooMany().need(0), SPENT);
            s.due("401", s.layings401().need(0), SPENT);
            s.holds("400", s.layings400().need(0) > 0);
            s.holds("400", s.layings400().need(399) > 0);
        });
        s.says("UNKNOWN (behind that).", () -> {
            for (int bad : new int[] {LOW, -1, 401, HIGH}) {
                s.due("401, laying " + bad, s.layings401().need(bad), SPENT);
                s.due("10032, laying " + bad, s.justTooMany().need(bad), SPENT);
                s.due("400, laying " + bad, s.layings400().need(bad), UNKNOWN);
            }
            s.due("400, laying 400", s.layings400().need(400), UNKNOWN);
            s.due("no layings", s.noLayings().need(0), UNKNOWN);
            s.due("one", new SquaredShips().need(1), UNKNOWN);
        });
        s.in("## Promise 25:");
        s.says("The CELL of CALL i (from 0) of THE CALLER, if it is LAYING k;", () -> {
            SquaredShips x = s.on(6, 6, false, 1, 0);
            for (int i = 0; i < 35; i++) s.due("call " + i, x.calls(35, i), i);
            s.due("the first", x.calls(0, 0), 0);
        });
        s.says("NONE: it makes not so many.", () -> {
            SquaredShips x = s.on(6, 6, false, 1, 0);
            s.due("35 for the last", x.calls(35, 35), NONE);
            s.due("35 for the last", x.calls(35, 36), NONE);
            s.due("one for the first", x.calls(0, 1), NONE);
            s.due("far", x.calls(0, HIGH), NONE);
            s.due("none for the one empty laying", new SquaredShips().calls(0, 0), NONE);
        });
        s.says("OUTSIDE: i below 0;", () -> {
            SquaredShips x = s.on(2, 2, false, 1, 0);
            s.due("-1", x.calls(0, -1), OUTSIDE);
            s.due("far", x.calls(0, LOW), OUTSIDE);
        });
        s.says("SPENT;", () -> {
            s.due("10032", s.justTooMany().calls(0, 0), SPENT);
            SquaredShips x = s.justNotTooMany();
            s.due("10000: CROWDED is not told here", x.calls(0, 0), x.best(0));
            x = s.layings401();
            s.due("401", x.calls(400, 0), x.best(0));
            s.due("401", x.calls(400, 36), NONE);
        });
        s.says("UNKNOWN (in this order).", () -> {
            for (int bad : new int[] {LOW, -1, 4, HIGH}) {
                SquaredShips x = s.on(2, 2, false, 1, 0);
                s.due("laying " + bad, x.calls(bad, 0), UNKNOWN);
                s.due("outside ahead", x.calls(bad, -1), OUTSIDE);
                s.due("spent ahead", s.justTooMany().calls(bad, 0), SPENT);
                s.due("outside ahead of spent", s.justTooMany().calls(bad, -1), OUTSIDE);
            }
            s.due("of 401", s.layings401().calls(401, 0), UNKNOWN);
            s.due("no layings", s.noLayings().calls(0, 0), UNKNOWN);
            s.due("no layings, outside ahead", s.noLayings().calls(0, -1), OUTSIDE);
        });
        hardest();
    }

    private static void hardest() {
        s.in("## Promise 26:");
        s.says("HARDEST: its number (what 0), its NEED (1), NEEDS of all LAYINGS together (2);", () -> {
            SquaredShips x = s.on(6, 6, false, 1, 0);
            s.due("34 and 35 need 35", x.hardest(0), 34);
            s.due("35", x.hardest(1), 35);
            s.due("all", x.hardest(2), 35 * 36 / 2 + 35);
            for (int what = 0; what < 3; what++) s.due("the one empty laying", new SquaredShips().hardest(what), 0);
            x = s.layings400();
            int sum = 0, most = 0;
            for (int k = 0; k < 400; k++) {
                sum += x.need(k);
                most = x.need(k) > x.need(most) ? k : most;
            }
            s.due("of 400", x.hardest(0), most);
        });
        s.says("NONE: there are no LAYINGS (all three).", () -> {
            for (int what = 0; what < 3; what++) {
                s.due("what " + what, s.noLayings().hardest(what), NONE);
                s.due("no room for two", s.on(2, 2, false, 3, 0, 5, 0).hardest(what), NONE);
            }
        });
        s.says("OUTSIDE;", () -> {
            for (int bad : new int[] {LOW, -1, 3, 4, HIGH}) {
                s.due("what " + bad, new SquaredShips().hardest(bad), OUTSIDE);
                s.due("ahead of too many", s.tooMany().hardest(bad), OUTSIDE);
                s.due("ahead of crowded", s.layings401().hardest(bad), OUTSIDE);
                s.due("ahead of none", s.noLayings().hardest(bad), OUTSIDE);
            }
        });
        s.says("SPENT: TOO MANY, CROWDED.", () -> {
            for (int what = 0; what < 3; what++) {
                s.due("10032", s.justTooMany().hardest(what), SPENT);
                s.due("10000, a crowd", s.justNotTooMany().hardest(what), SPENT);
                s.due("401", s.layings401().hardest(what), SPENT);
                s.holds("400", s.layings400().hardest(what) > 0);
            }
        });
    }

    private static void papers() {
        s.in("## Promise 27:");
        s.says("STRAY; NONE.", () -> {
            SquaredShips x = s.on(2, 2, false, 1, 0);
            s.due("no calls", x.stray(), NONE);
            for (int n = 0; n < 29; n++) s.told(x, 0, 0);
            s.due("fine", x.stray(), NONE);
            s.told(x, 0, 2);
            s.due("the last call", x.stray(), 29);
            x.answer(0, 1);
            s.due("the first call", x.stray(), 0);
            for (int n = 0; n < 30; n++) x.lose(n);
            s.due("none told", x.stray(), NONE);
        });
        s.says("SPENT.", () -> {
            s.due("10032", s.justTooMany().stray(), SPENT);
            s.due("10000", s.justNotTooMany().stray(), NONE);
            s.due("401", s.layings401().stray(), NONE);
        });
        s.says("(Without LAYINGS the first CALL whose ANSWER is told.)", () -> {
            SquaredShips x = s.noLayings();
            s.due("no calls", x.stray(), NONE);
            x.call(0);
            x.call(1);
            x.call(2);
            s.due("none told", x.stray(), NONE);
            x.answer(2, 0);
            s.due("the last", x.stray(), 2);
            x.answer(1, 2);
            s.due("the middle one", x.stray(), 1);
            x.answer(0, 1);
            s.due("the first", x.stray(), 0);
        });
        s.in("## Promise 28:");
        s.says("BLAME;", () -> {
            SquaredShips x = s.on(2, 2, false, 51, 0);
            s.due("no calls", x.blame(), 0);
            for (int n = 0; n < 30; n++) {
                s.told(x, 0, n % 3 == 0 ? 0 : 2);
                s.due("all wrong", x.blame(), n + 1);
            }
            x.answer(0, 1);
            s.due("one is true", x.blame(), 29);
        });
        s.says("NONE: there are no LAYINGS.", () -> {
            SquaredShips x = s.noLayings();
            s.due("no calls", x.blame(), NONE);
            s.told(x, 0, 0);
            s.due("one told", x.blame(), NONE);
        });
        s.says("SPENT.", () -> {
            s.due("10032", s.justTooMany().blame(), SPENT);
            s.due("10000", s.justNotTooMany().blame(), 0);
            s.due("401", s.layings401().blame(), 0);
        });
        s.in("## Promise 29:");
        s.says("BLAMED CALLS, by bits;", () -> {
            SquaredShips x = s.on(2, 2, false, 51, 0);
            s.due("no calls", x.blamed(), 0);
            for (int n = 0; n < 30; n++) {
                s.told(x, 0, n % 3 == 0 ? 0 : 2);
                s.due("all wrong", x.blamed(), (1 << n + 1) - 1);
            }
            x.answer(0, 1);
            x.lose(15);
            s.due("all but 0 and 15", x.blamed(), (1 << 30) - 2 - (1 << 15));
        });
        s.says("0 also if there are no LAYINGS.", () -> {
            SquaredShips x = s.noLayings();
            s.due("no calls", x.blamed(), 0);
            s.told(x, 0, 0);
            s.due("one told", x.blamed(), 0);
        });
        s.says("SPENT.", () -> {
            s.due("10032", s.justTooMany().blamed(), SPENT);
            s.due("10000", s.justNotTooMany().blamed(), 0);
            s.due("401", s.layings401().blamed(), 0);
        });
        switched();
    }

    private static void switched() {
        s.in("## Promise 30:");
        s.says("SWITCHED: the CALL k (what 0), the SHIP (1);", () -> {
            SquaredShips x = s.on(2, 2, false, 1, 0, 1, 0, 1, 0);
            // 0, 1 and 2, and then 3: 0 stays, as it is called till then, and 1 may have gone ahead of 2.
            for (int c : new int[] {0, 1, 2}) s.told(x, c, 2);
            for (int n = 3; n < 29; n++) s.told(x, 0, 1);
            s.told(x, 3, 2);
            s.due("behind the call of 1", x.switched(0), 2);
            s.due("the least ship", x.switched(1), 0);
            x = s.on(2, 2, false, 1, 0);
            s.told(x, 0, 2);
            for (int n = 1; n < 29; n++) s.told(x, 0, 1);
            s.told(x, 1, 2);
            s.due("at the last call", x.switched(0), 29);
            s.due("ship 0", x.switched(1), 0);
        });
        s.says("NONE: there is none such.", () -> {
            SquaredShips x = s.on(2, 2, false, 51, 0);
            s.told(x, 0, 0);
            s.due("one laying", x.switched(0), NONE);
            s.due("one laying", x.switched(1), NONE);
            x = s.noLayings();
            s.due("no layings, no calls", x.switched(0), NONE);
            s.told(x, 0, 0);
            s.due("no layings", x.switched(0), NONE);
            s.due("no layings", x.switched(1), NONE);
            x = new SquaredShips();
            s.told(x, 0, 1);
            s.due("no ships", x.switched(0), NONE);
            s.due("no ships", x.switched(1), NONE);
        });
        s.says("OUTSIDE;", () -> {
            for (int bad : new int[] {LOW, -1, 2, 3, HIGH}) {
                s.due("ahead of not", new SquaredShips().switched(bad), OUTSIDE);
                s.due("ahead of too many", s.tooMany().switched(bad), OUTSIDE);
                s.due("ahead of crowded", s.layings401().switched(bad), OUTSIDE);
                s.due("ahead of none", s.noLayings().switched(bad), OUTSIDE);
            }
        });
        s.says("NOT: some LAYING has all told ANSWERS TRUE;", () -> {
            SquaredShips x = s.on(2, 2, false, 1, 0);
            s.due("none told", x.switched(0), NOT);
            s.due("none told", x.switched(1), NOT);
            x.call(0);
            s.due("lost", x.switched(0), NOT);
            x.answer(0, 2);
            s.due("one laying", x.switched(0), NOT);
            x.answer(0, 1);
            x.set(2, 2);
            s.due("lies do not make it true", x.switched(0), NONE);
            x.set(1, 0);
            s.due("a hit, as sunk is not told", x.switched(0), NOT);
            s.due("400", s.layings400().switched(1), NOT);
        });
        s.says("SPENT: TOO MANY, CROWDED (ahead of NOT).", () -> {
            for (int what = 0; what < 2; what++) {
                s.due("10032", s.justTooMany().switched(what), SPENT);
                s.due("10000, a crowd", s.justNotTooMany().switched(what), SPENT);
                s.due("401", s.layings401().switched(what), SPENT);
                SquaredShips x = s.layings401();
                s.told(x, 0, 2);
                s.due("401, none true", x.switched(what), SPENT);
            }
        });
    }

    private static void rims() {
        s.in("## Promise 31:");
        s.says("A COUNT of a RIM (0 .. 6;", () -> {
            SquaredShips x = s.on(2, 3, false, 1, 0);
            int was = NONE;
            for (int v = 0; v <= 6; v++) {
                s.due("count " + v, x.count(4, v), was);
                was = v;
            }
            s.due("one told", x.many(4), 1);
            for (int r = 0; r < 4; r++) s.due("rim " + r, x.count(r, 0), NONE);
            s.due("all five", x.many(4), 5);
            x = s.on(6, 6, false);
            for (int r = 0; r < 12; r++) s.due("rim " + r, x.count(r, r % 7), NONE);
            s.due("all twelve", x.many(4), 12);
            for (int r = 0; r < 12; r++) s.due("rim " + r, x.count(r, 0), r % 7);
        });
        s.says("7: it is not told any more)", () -> {
            SquaredShips x = s.on(2, 2, false, 1, 0);
            x.count(0, 0);
            x.count(3, 6);
            s.due("fitting", x.fitting(), 0);
            s.due("which was told", x.count(3, 7), 6);
            s.due("one told", x.many(4), 1);
            s.due("fitting", x.fitting(), 2);
            s.due("not told", x.count(3, 7), NONE);
            s.due("one told", x.many(4), 1);
            s.due("which was told", x.count(0, 7), 0);
            s.due("none told", x.many(4), 0);
            s.due("fitting", x.fitting(), 4);
        });
        s.says(": which was told; NONE.", () -> {
            SquaredShips x = s.on(2, 2, false, 1, 0);
            s.due("none", x.count(1, 1), NONE);
            s.due("1", x.count(1, 1), 1);
            s.due("1", x.count(1, 0), 1);
            s.due("0", x.count(1, 7), 0);
            s.due("none", x.count(1, 1), NONE);
            x.grid(2, 2, false);
            s.due("none on another grid", x.count(1, 1), NONE);
        });
        s.says("UNKNOWN;", () -> {
            SquaredShips x = s.on(2, 3, false, 1, 0);
            for (int bad : new int[] {LOW, -1, 5, 6, 12, 32, HIGH}) {
                s.due("rim " + bad, x.count(bad, 0), UNKNOWN);
                s.due("ahead of outside", x.count(bad, 8), UNKNOWN);
            }
            s.due("none told", x.many(4), 0);
            s.due("rim 12 of twelve", s.on(6, 6, false).count(12, 0), UNKNOWN);
        });
        s.says("OUTSIDE.", () -> {
            SquaredShips x = s.on(2, 2, false, 1, 0);
            x.count(0, 1);
            for (int bad : new int[] {LOW, -2, -1, 8, 9, HIGH}) {
                s.due("v " + bad, x.count(0, bad), OUTSIDE);
                s.due("v " + bad, x.count(1, bad), OUTSIDE);
            }
            s.due("still 1", x.count(0, 1), 1);
            s.due("still none", x.count(1, 7), NONE);
        });
        s.in("## Promise 32:");
        s.says("The COUNT of a RIM by LAYING k.", () -> {
            SquaredShips x = s.on(6, 6, false, 1, 0);
            for (int r = 0; r < 12; r++) {
                s.due("rim " + r, x.rim(0, r), r == 0 || r == 6 ? 1 : 0);
                s.due("rim " + r, x.rim(35, r), r == 5 || r == 11 ? 1 : 0);
            }
            x = s.on(2, 2, true, 1, 0);
            x.drift(1, 1);
            x.call(3);
            s.due("of no calls", x.rim(0, 0), 1);
            s.due("of no calls", x.rim(0, 3), 0);
        });
        s.says("UNKNOWN;", () -> {
            SquaredShips x = s.on(2, 3, false, 1, 0);
            for (int bad : new int[] {LOW, -1, 5, 6, 12, HIGH}) s.due("rim " + bad, x.rim(0, bad), UNKNOWN);
            for (int bad : new int[] {LOW, -1, 6, 7, HIGH}) s.due("laying " + bad, x.rim(bad, 0), UNKNOWN);
            s.due("no layings", s.noLayings().rim(0, 0), UNKNOWN);
            s.due("one empty laying", new SquaredShips().rim(1, 0), UNKNOWN);
        });
        s.says("SPENT (ahead of no such LAYING).", () -> {
            SquaredShips x = s.justTooMany();
            for (int k : new int[] {LOW, -1, 0, 10032, HIGH}) {
                s.due("laying " + k, x.rim(k, 9), SPENT);
                s.due("no rim ahead", x.rim(k, 10), UNKNOWN);
                s.due("no rim ahead", x.rim(k, -1), UNKNOWN);
            }
        });
        fittingAndClues();
    }

    private static void fittingAndClues() {
        s.in("## Promise 33:");
        s.says("How many LAYINGS are FITTING.", () -> {
            SquaredShips x = s.on(6, 6, false, 1, 0);
            s.due("no counts", x.fitting(), 36);
            x.count(11, 1);
            s.due("the last column", x.fitting(), 6);
            x.count(5, 1);
            s.due("the last cell", x.fitting(), 1);
            x.count(0, 1);
            s.due("none", x.fitting(), 0);
            x.set(2, 2);
            s.due("no count is a lie", x.fitting(), 0);
            s.due("no layings", s.noLayings().fitting(), 0);
        });
        s.says("SPENT.", () -> {
            s.due("10032", s.justTooMany().fitting(), SPENT);
            SquaredShips x = s.justNotTooMany();
            s.due("10000", x.fitting(), x.layings());
        });
        s.in("## Promise 34:");
        s.says("CLUES of LAYING k, by bits of RIMS;", () -> {
            SquaredShips x = s.on(6, 6, false, 1, 0);
            for (int k = 0; k < 36; k++) s.due("row and column", x.clues(k), 1 << k / 6 | 1 << 6 + k % 6);
            x.count(0, 5);
            s.told(x, 0, 1);
            s.due("whatever is told", x.clues(0), 65);
            s.due("no rim at all", s.on(2, 2, false, 51, 0).clues(0), 0);
            s.holds("of 400", s.layings400().clues(399) != 0);
        });
        s.says("NONE.", () -> {
            SquaredShips x = s.on(2, 2, false, 18, 1);
            s.due("two diagonals", x.clues(0), NONE);
            s.due("two diagonals", x.clues(1), NONE);
        });
        s.says("SPENT: TOO MANY, CROWDED;", () -> {
            s.due("10032", s.justTooMany().clues(0), SPENT);
            s.due("10000, a crowd", s.justNotTooMany().clues(0), SPENT);
            s.due("401", s.layings401().clues(400), SPENT);
            s.holds("400", s.layings400().clues(0) >= NONE);
        });
        s.says("UNKNOWN (behind that).", () -> {
            for (int bad : new int[] {LOW, -1, 401, HIGH}) {
                s.due("401, laying " + bad, s.layings401().clues(bad), SPENT);
                s.due("10032, laying " + bad, s.justTooMany().clues(bad), SPENT);
                s.due("400, laying " + bad, s.layings400().clues(bad), UNKNOWN);
            }
            s.due("400, laying 400", s.layings400().clues(400), UNKNOWN);
            s.due("no layings", s.noLayings().clues(0), UNKNOWN);
            s.due("one", new SquaredShips().clues(1), UNKNOWN);
        });
        s.in("## Promise 35:");
        s.says("0 CELLS, 1 SHIPS, 2 CALLS, 3 told ANSWERS, 4 told COUNTS.", () -> {
            SquaredShips x = busy();
            int[] had = {12, 2, 30, 30, 3};
            for (int what = 0; what < 5; what++) s.due("many " + what, x.many(what), had[what]);
            x.lose(29);
            s.due("29 told", x.many(3), 29);
            s.due("thirty calls", x.many(2), 30);
            x.back();
            s.due("29 told", x.many(3), 29);
            x.back();
            s.due("28 told", x.many(3), 28);
            s.due("where layings are too many", s.justTooMany().many(1), 3);
        });
        s.says("OUTSIDE.", () -> {
            for (int bad : new int[] {LOW, -1, 5, 6, HIGH}) s.due("what " + bad, new SquaredShips().many(bad), OUTSIDE);
        });
    }

    public static void main(String[] args) {
        first();
        grid();
        ship();
        set();
        drift();
        spots();
        layings();
        calls();
        answers();
        truths();
        left();
        there();
        parts();
        best();
        caller();
        papers();
        rims();
        s.end(args);
    }
}
