/** The document's Terms, sentence by sentence, at their edges. */
public final class TermsTest {
    private static final int NONE = Sentences.NONE, UNKNOWN = Sentences.UNKNOWN, OUTSIDE = Sentences.OUTSIDE;
    private static final int NOT = Sentences.NOT, FULL = Sentences.FULL, SPENT = Sentences.SPENT;
    private static final int LOW = Sentences.LOW, HIGH = Sentences.HIGH;
    private static final Sentences s = new Sentences();

    private static long cells(int... numbers) {
        return Sentences.cells(numbers);
    }

    private static void theGrid() {
        s.in("======== 1");
        s.says("THE GRID has w by h CELLS (2 .. 6 each;", () -> {
            SquaredShips x = new SquaredShips();
            for (int w = 2; w <= 6; w++) {
                for (int h = 2; h <= 6; h++) {
                    s.due("grid", x.grid(w, h, (w + h) % 2 == 0), w * h);
                    s.due("cells", x.many(0), w * h);
                }
            }
            for (int bad : new int[] {LOW, -2, -1, 0, 1, 7, 8, 36, HIGH}) {
                s.due("width " + bad, x.grid(bad, 3, false), OUTSIDE);
                s.due("height " + bad, x.grid(3, bad, true), OUTSIDE);
                s.due("both " + bad, x.grid(bad, bad, false), OUTSIDE);
            }
            s.due("still 36", x.many(0), 36);
            s.due("cell 35", x.call(35), 0);
            s.due("cell 36", x.call(36), UNKNOWN);
            x.grid(2, 2, false);
            s.due("cell 3", x.call(3), 0);
            s.due("cell 4", x.call(4), UNKNOWN);
        });
        s.says("5 by 5 at first)", () -> {
            SquaredShips x = new SquaredShips();
            s.due("cells", x.many(0), 25);
            s.due("cell 24", x.call(24), 0);
            s.due("cell 25", x.call(25), UNKNOWN);
            x.back();
            x.ship(15, 0);
            x.ship(0x1111, 0);
            s.due("four in a row on rows of five", x.spots(0), 10);
            s.due("four in a column on columns of five", x.spots(1), 10);
        });
        s.says("CELL w y + x", () -> {
            s.spots(s.on(3, 2, false, 17, 0), 0, cells(0, 3), cells(1, 4), cells(2, 5));
            s.spots(s.on(2, 3, false, 17, 0), 0, cells(0, 2), cells(1, 3), cells(2, 4), cells(3, 5));
            s.due("the last of 6 by 2", s.on(6, 2, false, 1, 0).spot(0, 11), cells(11));
            s.due("the last of 6 by 6", s.on(6, 6, false, 1, 0).spot(0, 35), 1L << 35);
        });
        s.says("it WRAPS or not (it does not at first)", () -> {
            SquaredShips x = new SquaredShips();
            s.due("drift", x.drift(1, 0), NOT);
            x.ship(3, 0);
            s.due("four dominoes in each of five rows", x.spots(0), 20);
            x.grid(5, 5, true);
            x.ship(3, 0);
            s.due("five dominoes in each of five rows", x.spots(0), 25);
            s.due("drift", x.drift(1, 0), 1);
        });
    }

    private static void ships() {
        s.says("A SHAPE is told by bits of a square of 4 by 4 (bit 4 y + x;", () -> {
            for (int bit = 1; bit < 16; bit++) {
                SquaredShips x = s.on(4, 4, false, 1 | 1 << bit, 0);
                s.due("bits 0 and " + bit, x.spot(0, 0), 1 | 1 << bit);
                s.due("how many", x.spots(0), (4 - bit % 4) * (4 - bit / 4));
                s.due("on three by four", s.on(3, 4, false, 1 | 1 << bit, 0).spots(0), (3 - bit % 4) * (4 - bit / 4));
                s.due("on four by three", s.on(4, 3, false, 1 | 1 << bit, 0).spots(0), (4 - bit % 4) * (3 - bit / 4 > 0 ? 3 - bit / 4 : 0));
            }
        });
        s.says("1 .. 5 bits)", () -> {
            SquaredShips x = s.on(6, 6, false);
            s.due("none", x.ship(0, 0), OUTSIDE);
            s.due("six", x.ship(63, 0), OUTSIDE);
            s.due("six", x.ship(0xfc00, 1), OUTSIDE);
            s.due("all sixteen", x.ship(0xffff, 2), OUTSIDE);
            s.due("one", x.ship(1 << 15, 0), 0);
            s.due("five", x.ship(0xf800, 0), 1);
            s.due("four", x.ship(0x8421, 0), 2);
        });
        s.says("SHIPS are numbered from 0, 3 at most", () -> {
            SquaredShips x = s.on(2, 2, false);
            for (int n = 0; n < 3; n++) s.due("ship", x.ship(1, 0), n);
            s.due("a fourth", x.ship(1, 0), FULL);
            s.due("three", x.many(1), 3);
            s.due("ship 2", x.spots(2), 4);
            s.due("ship 3", x.spots(3), UNKNOWN);
            s.due("ship -1", x.spots(-1), UNKNOWN);
        });
        s.says("0 as it is told", () -> {
            s.spots(s.on(3, 2, false, 23, 0), 0, cells(0, 1, 2, 3));
            s.spots(s.on(2, 3, false, 23, 0), 0);
            s.spots(s.on(3, 3, true, 1, 0, 18, 0), 1, cells(1, 3), cells(2, 4), cells(0, 5), cells(2, 6), cells(4, 6),
                cells(0, 7), cells(5, 7), cells(1, 8), cells(3, 8));
        });
        s.says("1 turned by quarters, too", () -> {
            s.spots(s.on(3, 2, false, 23, 1), 0, cells(0, 1, 2, 3), cells(2, 3, 4, 5));
            s.spots(s.on(2, 3, false, 23, 1), 0, cells(0, 1, 3, 5), cells(0, 2, 4, 5));
            s.due("two ways of lying", s.on(4, 4, false, 15, 1).spots(0), 8);
            s.due("four ways of a corner", s.on(2, 2, false, 19, 1).spots(0), 4);
            s.due("an S two ways", s.on(3, 3, false, 54, 1).spots(0), 4);
            s.spots(s.on(3, 3, false, 566, 1), 0, 158, 185, 242, 314);
            s.spots(s.on(4, 4, false, 0x8007, 1), 0, 4376, 6280, 32775, 57345);
        });
        s.says("2 mirrored, too.", () -> {
            s.spots(s.on(3, 2, false, 23, 2), 0, cells(0, 1, 2, 3), cells(0, 1, 2, 5), cells(0, 3, 4, 5), cells(2, 3, 4, 5));
            s.spots(s.on(2, 3, false, 23, 2), 0, cells(0, 1, 2, 4), cells(0, 1, 3, 5), cells(0, 2, 4, 5), cells(1, 3, 4, 5));
            s.due("an S four ways", s.on(3, 3, false, 54, 2).spots(0), 8);
            s.due("eight ways", s.on(6, 6, true, 113, 2).spots(0), 288);
            s.spots(s.on(3, 3, false, 566, 2), 0, 122, 158, 179, 185, 188, 242, 314, 410);
            s.spots(s.on(4, 4, false, 0x8007, 2), 0, 4110, 4376, 6280, 28680, 32775, 33041, 34945, 57345);
        });
    }

    private static void spots() {
        s.says("A SPOT of a SHIP is a set of CELLS (told by bits) that its SHAPE, turned as it may be, has somewhere: moved whole cells;", () -> {
            s.spots(s.on(2, 2, false, 1 << 15, 0), 0, 1, 2, 4, 8);
            s.spots(s.on(2, 2, false, 1 << 3, 0), 0, 1, 2, 4, 8);
            s.spots(s.on(2, 2, false, 0xcc00, 0), 0, 15);
            s.spots(s.on(4, 2, false, 0x6000, 0), 0, 3, 6, 12, 48, 96, 192);
        });
        s.says("all within THE GRID", () -> {
            s.spots(s.on(2, 2, false, 3, 0), 0, 3, 12);
            s.spots(s.on(2, 2, false, 17, 0), 0, 5, 10);
            s.spots(s.on(2, 2, false, 7, 2), 0);
            s.spots(s.on(4, 2, false, 15, 0), 0, 15, 240);
            s.spots(s.on(3, 6, false, 15, 0), 0);
            s.spots(s.on(2, 4, false, 0x1111, 0), 0, cells(0, 2, 4, 6), cells(1, 3, 5, 7));
            s.spots(s.on(6, 3, false, 0x1111, 0), 0);
            s.spots(s.on(4, 4, false, 0x1008, 0), 0, 0x1008);
            s.due("a corner to corner of four", s.on(6, 6, false, 0x8421, 1).spots(0), 18);
        });
        s.says("or, if it WRAPS, x and y modulo w and h", () -> {
            s.spots(s.on(3, 2, true, 3, 0), 0, cells(0, 1), cells(0, 2), cells(1, 2), cells(3, 4), cells(3, 5), cells(4, 5));
            s.spots(s.on(2, 3, true, 17, 0), 0, cells(0, 2), cells(1, 3), cells(0, 4), cells(2, 4), cells(1, 5), cells(3, 5));
            s.due("over both rims", s.on(3, 3, true, 0x8001, 0).spots(0), 0);
            s.spots(s.on(2, 2, true, 33, 0), 0, cells(1, 2), cells(0, 3));
            s.due("anywhere", s.on(6, 6, true, 0x8421, 0).spots(0), 36);
            s.due("the last: 2 and 9 and 22 and 35, over the rim", s.on(6, 6, true, 15, 0).spot(0, 35), cells(32, 33, 34, 35));
        });
        s.says("(only if these are as many CELLS as the SHAPE has bits)", () -> {
            s.spots(s.on(2, 2, true, 7, 0), 0);
            s.spots(s.on(2, 2, true, 5, 0), 0);
            s.spots(s.on(2, 2, true, 3, 0), 0, 3, 12);
            s.spots(s.on(3, 3, true, 15, 2), 0);
            s.spots(s.on(3, 3, true, 9, 1), 0);
            s.spots(s.on(3, 3, true, 7, 0), 0, 7, 56, 448);
            s.spots(s.on(4, 2, true, 0x1111, 0), 0);
            s.spots(s.on(4, 2, true, 0x1111, 1), 0, 15, 240);
            s.due("five of eight", s.on(4, 2, true, 31, 0).spots(0), 8);
            s.due("one turning falls together, the other does not", s.on(2, 4, true, 7, 1).spots(0), 8);
        });
        s.says("SPOTS are numbered from 0 as these sets rise as numbers,", () -> {
            SquaredShips x = s.on(6, 6, true, 113, 2, 0x4e4, 2);
            for (int ship = 0; ship < 2; ship++) {
                for (int k = 1; k < x.spots(ship) && k < 200; k++) s.holds("rising", x.spot(ship, k - 1) < x.spot(ship, k));
            }
            s.spots(s.on(3, 2, false, 33, 2), 0, cells(1, 3), cells(0, 4), cells(2, 4), cells(1, 5));
            s.due("the last", s.on(6, 6, false, 1, 0).spot(0, 35), 1L << 35);
        });
        s.says("each set once.", () -> {
            s.spots(s.on(2, 2, false, 1, 2), 0, 1, 2, 4, 8);
            s.spots(s.on(2, 2, true, 51, 2), 0, 15);
            s.due("four in a ring lie in a row one way", s.on(4, 4, true, 15, 0).spots(0), 4);
            s.due("and stand in a column one way", s.on(4, 4, true, 15, 2).spots(0), 8);
            s.spots(s.on(2, 2, true, 3, 2), 0, 3, 5, 10, 12);
        });
    }

    private static void layings() {
        s.says("A LAYING gives each SHIP a SPOT, so that no two have a CELL in common,", () -> {
            s.due("two", s.on(2, 2, false, 1, 0, 1, 0).layings(), 12);
            s.due("three", s.on(2, 2, false, 1, 0, 1, 0, 1, 0).layings(), 24);
            s.due("two dominoes", s.on(2, 2, false, 3, 0, 3, 0).layings(), 2);
            s.due("the paper is full", s.on(2, 2, false, 3, 0, 3, 0, 1, 0).layings(), 0);
            s.due("no spot for ship 1", s.on(2, 2, false, 1, 0, 7, 0).layings(), 0);
            s.due("no spot for ship 0", s.on(2, 2, false, 7, 0, 1, 0).layings(), 0);
        });
        s.says("and by TOUCH (0 .. 2; 0 at first):", () -> {
            SquaredShips x = s.on(3, 3, false, 1, 0, 1, 0);
            s.due("at first", x.layings(), 72);
            s.due("-1", x.set(0, -1), OUTSIDE);
            s.due("3", x.set(0, 3), OUTSIDE);
            s.due("0", x.set(0, 0), 0);
            s.due("2", x.set(0, 2), 0);
            s.due("1", x.set(0, 1), 2);
            s.due("0", x.set(0, 0), 1);
            s.due("again", x.layings(), 72);
        });
        s.says("1 no two SHIPS have CELLS side by side,", () -> {
            SquaredShips x = s.on(3, 3, false, 1, 0, 1, 0);
            x.set(0, 1);
            s.due("of 72", x.layings(), 48);
            x = s.on(2, 2, false, 1, 0, 1, 0);
            x.set(0, 1);
            s.due("corner to corner", x.layings(), 4);
            x = s.on(3, 2, false, 1, 0, 1, 0);
            x.set(0, 1);
            s.due("the end of a row is not beside the next row's beginning", x.layings(), 30 - 14);
            x = s.on(4, 2, false, 1, 0, 1, 0, 1, 0);
            x.set(0, 1);
            s.due("each of three", x.layings(), 6 * 12);
        });
        s.says("2 nor corner to corner", () -> {
            SquaredShips x = s.on(3, 3, false, 1, 0, 1, 0);
            x.set(0, 2);
            s.due("of 72", x.layings(), 32);
            x = s.on(2, 2, false, 1, 0, 1, 0);
            x.set(0, 2);
            s.due("no room", x.layings(), 0);
            x = s.on(3, 2, false, 1, 0, 1, 0);
            x.set(0, 2);
            s.due("no corner over the end of a row", x.layings(), 8);
            x = s.on(6, 2, false, 1, 0, 1, 0, 1, 0);
            x.set(0, 2);
            s.due("each of three", x.layings(), 6 * 32);
        });
        s.says("(over the rim, too, if THE GRID WRAPS)", () -> {
            int[][] due = {{4, 4, 240, 176, 112}, {3, 3, 72, 36, 0}, {2, 2, 12, 4, 0}, {4, 2, 56, 32, 16}, {2, 4, 56, 32, 16}, {6, 6, 1260, 1116, 972}};
            for (int[] d : due) {
                SquaredShips x = s.on(d[0], d[1], true, 1, 0, 1, 0);
                for (int touch = 0; touch < 3; touch++) {
                    x.set(0, touch);
                    s.due(d[0] + " by " + d[1] + ", touch " + touch, x.layings(), d[2 + touch]);
                }
            }
            SquaredShips x = s.on(4, 4, false, 1, 0, 1, 0);
            x.set(0, 1);
            s.due("it does not wrap", x.layings(), 240 - 48);
            x.set(0, 2);
            s.due("it does not wrap", x.layings(), 240 - 48 - 36);
        });
        s.says("LAYINGS stand in ORDER by the SPOT of SHIP 0, then 1, then 2.", () -> {
            SquaredShips x = s.on(3, 2, false, 1, 0, 3, 0, 1, 0);
            int n = x.layings();
            s.due("layings", n, 6 * 4 * 3 - 8 * 3);
            int last = -1;
            for (int k = 0; k < n; k++) {
                int place = 36 * x.laid(k, 0) + 6 * x.laid(k, 1) + x.laid(k, 2);
                s.holds("laying " + k + " behind the one ahead", place > last);
                last = place;
            }
        });
        s.says("Without SHIPS there is the one empty LAYING.", () -> {
            SquaredShips x = new SquaredShips();
            s.due("layings", x.layings(), 1);
            s.due("left", x.left(), 1);
            s.due("which", x.which(0), 0);
            s.due("which", x.which(1), NONE);
            s.due("sure of ships", x.sure(0), 0);
            s.due("sure of none", x.sure(1), (1L << 25) - 1);
            s.due("need", x.need(0), 0);
            s.due("rim", x.rim(0, 0), 0);
            s.due("clues", x.clues(0), 0);
            s.due("fitting", x.fitting(), 1);
            x.call(7);
            s.due("truth", x.truth(0, 0), 0);
            s.due("no other", x.truth(1, 0), UNKNOWN);
            x.count(0, 1);
            s.due("fitting", x.fitting(), 0);
        });
        s.says("TOO MANY: the numbers of SPOTS of all SHIPS times one another are more than 10000.", () -> {
            SquaredShips x = s.justNotTooMany();
            s.due("10 spots", x.spots(0), 10);
            s.due("25 spots", x.spots(1), 25);
            s.due("40 spots", x.spots(2), 40);
            s.holds("10000 are not", x.layings() > 0);
            x = s.justTooMany();
            s.due("3 spots", x.spots(0), 3);
            s.due("38 spots", x.spots(1), 38);
            s.due("88 spots", x.spots(2), 88);
            s.due("10032 are", x.layings(), SPENT);
            x.set(0, 2);
            s.due("however few may lie so", x.layings(), SPENT);
            s.due("288 by 288", s.on(6, 6, true, 113, 2, 113, 2).layings(), SPENT);
            s.due("288 by 288 by 288", s.on(6, 6, true, 113, 2, 113, 2, 113, 2).layings(), SPENT);
            s.due("none by any are none", s.on(6, 2, true, 1, 0, 1, 0, 0x1111, 0).layings(), 0);
            s.due("any by none by any", s.on(6, 2, true, 113, 2, 0x1111, 0, 113, 2).layings(), 0);
        });
    }

    private static void calls() {
        s.in("======== 2");
        s.says("CALLS are numbered from 0, 30 at most:", () -> {
            SquaredShips x = s.on(2, 2, false, 3, 0);
            for (int n = 0; n < 30; n++) s.due("call", n % 2 == 0 ? x.call(n % 4) : x.salvo(0, 3), n);
            s.due("one more", x.call(0), FULL);
            s.due("a salvo more", x.salvo(0, 1), FULL);
            s.due("thirty", x.many(2), 30);
            s.due("the last", x.answer(29, 1), NONE);
            s.due("no more", x.answer(30, 1), UNKNOWN);
            s.due("one less", x.back(), 29);
            s.due("another last", x.salvo(0, 1), 29);
            s.due("full again", x.call(3), FULL);
            s.due("its truth", x.truth(0, 29), 2);
        });
        s.says("of one CELL, or of two unlike ones (a SALVO).", () -> {
            SquaredShips x = s.on(2, 2, false, 3, 0);
            for (int c = 0; c < 4; c++) s.due("a cell and itself", x.salvo(c, c), OUTSIDE);
            s.due("the lesser first", x.salvo(0, 3), 0);
            s.due("the greater first", x.salvo(3, 0), 1);
            s.due("one", x.call(0), 2);
        });
        s.says("TRUE ANSWER by a LAYING: of one CELL 0, if no SHIP is there, 1, if one is,", () -> {
            SquaredShips x = s.on(3, 3, false, 7, 0, 7, 0);
            x.call(0);
            x.call(3);
            x.call(8);
            s.truths(x, 0, 1, 1, 0);
            s.truths(x, 1, 1, 0, 1);
            s.truths(x, 5, 0, 1, 1);
        });
        s.says("but 2, if SUNK is told (0, 1; 1 at first)", () -> {
            SquaredShips x = s.on(2, 2, false, 1, 0);
            x.call(0);
            s.due("told at first", x.truth(0, 0), 2);
            s.due("-1", x.set(1, -1), OUTSIDE);
            s.due("2", x.set(1, 2), OUTSIDE);
            s.due("still told", x.truth(0, 0), 2);
            s.due("it was 1", x.set(1, 0), 1);
            s.due("not told", x.truth(0, 0), 1);
            s.due("it was 0", x.set(1, 1), 0);
            s.due("told", x.truth(0, 0), 2);
        });
        sinking();
        s.says("of a SALVO how many of its CELLS have a SHIP.", () -> {
            SquaredShips x = s.on(3, 2, false, 3, 0, 1, 0);
            x.salvo(4, 5);
            x.salvo(4, 0);
            x.salvo(1, 2);
            x.salvo(0, 1);
            x.salvo(2, 3);
            x.salvo(3, 5);
            // The domino at 0, 1, the single cell at 2: hit again counts again, and none of it is told as sunk.
            s.truths(x, 0, 0, 1, 2, 2, 1, 0);
            x = s.on(3, 3, true, 1, 0, 1, 0);
            x.salvo(0, 1);
            s.due("both sunk at once are two", x.truth(0, 0), 2);
            s.due("one of them", x.truth(1, 0), 1);
        });
    }

    private static void sinking() {
        s.says("and by this CALL the last CELL of it that was not called yet while it lay there is hit;", () -> {
            SquaredShips x = s.on(3, 2, false, 7, 0, 1, 0);
            for (int c : new int[] {0, 0, 2, 1, 1, 0, 3, 3}) x.call(c);
            s.truths(x, 0, 1, 1, 1, 2, 1, 1, 2, 1);
            x = s.on(3, 2, false, 3, 0, 17, 0);
            for (int c : new int[] {0, 2, 1, 5}) x.call(c);
            s.truths(x, 0, 1, 1, 2, 2);
            x = s.on(3, 2, true, 3, 0);
            x.drift(-1, 0);
            for (int c : new int[] {0, 1, 0}) x.call(c);
            // Laying 2, cells 1 and 2: it comes to 0 and 1 only behind the call of 0.
            s.due("spot", x.spot(0, 2), cells(1, 2));
            s.truths(x, 2, 0, 1, 2);
            x = s.on(2, 2, false, 3, 0);
            x.salvo(0, 1);
            x.call(0);
            s.truths(x, 0, 2, 1);
            x = s.on(2, 2, false, 3, 0);
            x.salvo(0, 2);
            x.call(1);
            s.truths(x, 0, 1, 2);
        });
    }

    private static void drift() {
        s.says("A SHIP is HIT at a CELL once that was called while it was there (a CELL of it drifts along with it).", () -> {
            SquaredShips x = s.on(3, 3, true, 1, 0, 3, 0);
            x.drift(0, 1);
            x.salvo(0, 8);
            x.call(4);
            // Ship 0 at 0 is hit by the salvo and stays; ship 1 at 1, 2 stays then, and moves behind the miss.
            s.due("spot", x.spot(1, x.laid(0, 1)), cells(1, 2));
            s.due("hit", x.lies(0, 0, 2), cells(0));
            s.due("ahead", x.lies(0, 1, 1), cells(1, 2));
            s.due("never hit", x.lies(0, 1, 2), cells(4, 5));
        });
        s.says("DRIFT (dx, dy), each -1 .. 1 (0, 0 at first; only if THE GRID WRAPS):", () -> {
            SquaredShips x = s.on(4, 3, true, 1, 0);
            x.call(5);
            s.due("none at first", x.lies(0, 0, 1), cells(0));
            for (int dx = -1; dx <= 1; dx++) {
                for (int dy = -1; dy <= 1; dy++) {
                    s.due("drift", x.drift(dx, dy), 1);
                    s.due("from 0", x.lies(0, 0, 1), cells((dx + 4) % 4 + 4 * ((dy + 3) % 3)));
                    s.due("from 6", x.lies(6, 0, 1), cells(2 + dx + 4 * (1 + dy)));
                    s.due("from 11", x.lies(11, 0, 1), cells((3 + dx) % 4 + 4 * ((2 + dy) % 3)));
                }
            }
            for (int bad : new int[] {LOW, -3, -2, 2, 3, HIGH}) {
                s.due("dx " + bad, x.drift(bad, 0), OUTSIDE);
                s.due("dy " + bad, x.drift(0, bad), OUTSIDE);
            }
            s.due("still 1, 1", x.lies(0, 0, 1), cells(5));
            x = s.on(4, 3, false, 1, 0);
            for (int d = -1; d <= 1; d++) s.due("it does not wrap", x.drift(d, d), NOT);
        });
        s.says("behind each CALL by which no SHIP was hit,", () -> {
            SquaredShips x = s.on(4, 2, true, 1, 0, 1, 0);
            x.drift(1, 0);
            x.salvo(6, 7);
            x.salvo(7, 1);
            x.call(1);
            x.call(7);
            // From 0 and 1: a salvo of two misses moves once; a hit by one of two, or again, moves nothing.
            s.due("once", x.lies(0, 0, 1), cells(1));
            s.due("once", x.lies(0, 1, 1), cells(2));
            s.due("ship 0 was hit", x.lies(0, 1, 2), cells(2));
            s.due("hit again", x.lies(0, 1, 3), cells(2));
            s.due("missed", x.lies(0, 1, 4), cells(3));
            s.due("hit for ever", x.lies(0, 0, 4), cells(1));
            x.answer(1, 0);
            x.answer(0, 2);
            s.due("whatever was told", x.lies(0, 1, 2), cells(2));
            x.set(1, 0);
            s.due("whether sunk is told or not", x.lies(0, 1, 4), cells(3));
        });
        s.says("all SHIPS that were never HIT move by it,", () -> {
            SquaredShips x = s.on(3, 3, true, 3, 0, 3, 0, 1, 0);
            x.drift(1, 1);
            x.call(8);
            x.call(4);
            x.call(8);
            x.call(3);
            // Laying 0: 0, 1 and 3, 4 and 2. They move to 4, 5 and 7, 8 and 3; then only those that were not hit.
            s.due("ship 0", x.lies(0, 0, 1), cells(4, 5));
            s.due("ship 1", x.lies(0, 1, 1), cells(7, 8));
            s.due("ship 2 over the rim", x.lies(0, 2, 1), cells(3));
            s.due("ship 0 was hit", x.lies(0, 0, 2), cells(4, 5));
            s.due("ship 1 was hit then", x.lies(0, 1, 3), cells(7, 8));
            s.due("ship 2 at last", x.truth(0, 3), 2);
            x.back();
            x.call(0);
            x.call(0);
            s.due("ship 2 alone from 3 to 7, where ship 1 is: not", x.lies(0, 2, 4), cells(3));
            x.drift(1, 0);
            s.due("whole rows at once", x.lies(0, 0, 1), cells(1, 2));
        });
        s.says("but none does, if two SHIPS would have a CELL in common.", () -> {
            SquaredShips x = s.on(4, 2, true, 1, 0, 1, 0, 1, 0);
            x.drift(1, 0);
            x.call(1);
            x.call(7);
            x.call(7);
            // Ships at 0, 1 and 2 (laying 0): ship 1 is hit and stands in the way of ship 0, so that ship 2 stays, too.
            s.due("spots", x.laid(0, 2), 2);
            for (int n = 1; n <= 3; n++) {
                s.due("ship 0", x.lies(0, 0, n), cells(0));
                s.due("ship 1", x.lies(0, 1, n), cells(1));
                s.due("ship 2", x.lies(0, 2, n), cells(2));
            }
            x = s.on(4, 2, true, 1, 0, 1, 0);
            x.drift(1, 0);
            x.call(7);
            s.due("to where the other moves away", x.lies(0, 0, 1), cells(1));
            s.due("the other", x.lies(0, 1, 1), cells(2));
            x = s.on(3, 3, true, 1, 0, 1, 0);
            x.set(0, 1);
            x.drift(0, 1);
            x.call(4);
            x.call(8);
            // Ship 0 at 4 is hit; ship 1 at 0 comes beside it: touching does not matter to a drift.
            int k = 0;
            for (int j = 0; j < x.layings(); j++) if (x.laid(j, 0) == 4 && x.laid(j, 1) == 0) k = j;
            s.due("beside it", x.lies(k, 1, 2), cells(3));
        });
    }

    private static void told() {
        s.says("To a CALL an ANSWER is told (0 .. 2), or it is LOST.", () -> {
            SquaredShips x = s.on(2, 2, false, 1, 0);
            x.call(0);
            s.due("lost", x.left(), 4);
            s.due("-1", x.answer(0, -1), OUTSIDE);
            s.due("3", x.answer(0, 3), OUTSIDE);
            s.due("lost still", x.many(3), 0);
            int[] left = {3, 0, 1};
            for (int v = 0; v < 3; v++) {
                s.due("told", x.answer(0, v), v - 1);
                s.due("left", x.left(), left[v]);
            }
            s.due("lost", x.lose(0), 1);
            s.due("left", x.left(), 4);
        });
        s.says("LIES (0 .. 2; 0 at first): LEFT are LAYINGS by which at most so many told ANSWERS are other than TRUE.", () -> {
            SquaredShips x = s.on(3, 2, false, 1, 0);
            s.told(x, 0, 2);
            s.told(x, 1, 0);
            s.told(x, 2, 2);
            s.told(x, 3, 2);
            x.call(4);
            // Wrong by layings 0 .. 5: 2, 4, 2, 2, 3, 3.
            s.due("-1", x.set(2, -1), OUTSIDE);
            s.due("3", x.set(2, 3), OUTSIDE);
            s.due("none", x.left(), 0);
            s.due("it was 0", x.set(2, 1), 0);
            s.due("none", x.left(), 0);
            s.due("it was 1", x.set(2, 2), 1);
            s.due("two wrong", x.left(), 3);
            s.due("laying 0", x.which(0), 0);
            s.due("laying 2", x.which(1), 2);
            s.due("laying 3", x.which(2), 3);
            x.lose(3);
            s.due("one less of 0 and 2 and 4 and 5", x.left(), 5);
            s.due("it was 2", x.set(2, 1), 2);
            s.due("0 and 2", x.left(), 2);
            s.due("it was 1", x.set(2, 0), 1);
            s.due("none", x.left(), 0);
        });
        s.says("THERE in a CELL: how many LAYINGS LEFT have a SHIP there behind all CALLS.", () -> {
            SquaredShips x = s.on(3, 2, true, 1, 0, 1, 0);
            x.drift(1, 0);
            s.due("two of each: at 0 one of two", x.there(0), 10);
            s.told(x, 0, 0);
            s.due("left", x.left(), 20);
            s.due("none came to 1", x.there(1), 0);
            s.due("they came to 0 from 2", x.there(0), 8);
            s.due("they came to 5 from 4", x.there(5), 8);
            s.told(x, 1, 2);
            s.due("none is left", x.there(0), 0);
            s.due("no cell", x.there(6), UNKNOWN);
            x = s.on(2, 2, false, 1, 0, 1, 0, 1, 0);
            for (int c = 0; c < 4; c++) s.due("any of three ships", x.there(c), 18);
            s.told(x, 2, 0);
            int[] six = {6, 6, 0, 6};
            for (int c = 0; c < 4; c++) s.due("any of three ships", x.there(c), six[c]);
        });
        s.says("SURE CELLS: those where all have one (or none has).", () -> {
            SquaredShips x = s.on(3, 2, true, 3, 0);
            s.due("none sure", x.sure(0) | x.sure(1), 0);
            s.told(x, 0, 1);
            s.due("0, 1 or 0, 2: 0", x.sure(0), cells(0));
            s.due("the row below", x.sure(1), cells(3, 4, 5));
            s.told(x, 1, 0);
            s.due("0, 2", x.sure(0), cells(0, 2));
            s.due("all others", x.sure(1), cells(1, 3, 4, 5));
            s.told(x, 2, 1);
            s.due("none left: all", x.sure(0), 63);
            s.due("none left: all", x.sure(1), 63);
        });
    }

    private static void parts() {
        s.says("PARTS of a CALL more: LAYINGS LEFT by the TRUE ANSWER that it would get.", () -> {
            SquaredShips x = s.on(3, 2, true, 3, 0);
            x.drift(1, 0);
            s.told(x, 0, 0);
            s.told(x, 2, 1);
            // Left: 1, 2, which drifted to 2, 0 and was hit at 2.
            s.due("left", x.left(), 1);
            s.due("sunk at 0", x.part(0, 2), 1);
            s.due("hit again at 2", x.part(2, 1), 1);
            s.due("not sunk again", x.part(2, 2), 0);
            s.due("missed at 1", x.part(1, 0), 1);
            x.set(1, 0);
            s.due("hit at 0", x.part(0, 1), 1);
            s.due("not told", x.part(0, 2), 0);
            x = s.on(2, 2, false, 1, 0);
            for (int n = 0; n < 30; n++) x.call(0);
            s.due("though no call more is taken", x.part(1, 2), 1);
            s.due("hit before", x.part(0, 1), 1);
        });
        s.says("BEST CALL (of one CELL): that whose greatest PART is least, of several the least CELL.", () -> {
            SquaredShips x = s.on(3, 3, false, 3, 0);
            s.due("1, 4 and 7 lie in two of six", x.best(0), 1);
            s.due("four do not", x.best(1), 4);
            x = s.on(2, 3, true, 17, 0);
            s.due("two of six everywhere", x.best(0), 0);
            s.due("the others", x.best(1), 4);
            x = s.on(3, 2, false, 3, 0, 3, 0);
            s.due("1 and 4 lie in all; 0 in half of them", x.best(0), 0);
            s.due("of eight", x.best(1), 4);
            s.told(x, 5, 1);
            s.told(x, 4, 2);
            // Four are left, by which 4, 5 are sunk; 0 and 2 part them by twos, which are the same in two orders.
            s.due("0 ahead of 2", x.best(0), 0);
            s.due("two each", x.best(1), 2);
            s.told(x, 2, 0);
            s.due("none parts them", x.best(0), 0);
            s.due("both", x.best(1), 2);
            x.answer(2, 1);
            s.due("none parts them", x.best(0), 0);
            x = s.on(6, 6, false, 1, 0);
            for (int c = 0; c < 29; c++) s.told(x, c, 0);
            s.due("only 29 and those behind part them", x.best(0), 29);
            s.due("six of seven", x.best(1), 6);
        });
        s.says("BEST SALVO: of two CELLS, likewise; of several the least lesser CELL, then the least greater one.", () -> {
            SquaredShips x = s.on(3, 3, false, 3, 0);
            int[] due = {0, 4, 3};
            for (int what = 0; what < 3; what++) s.due("best salvo", x.bestSalvo(what), due[what]);
            x = s.on(2, 2, false, 1, 0);
            int[] half = {0, 1, 2};
            for (int what = 0; what < 3; what++) s.due("any two", x.bestSalvo(what), half[what]);
            s.told(x, 0, 0);
            int[] third = {0, 1, 2};
            for (int what = 0; what < 3; what++) s.due("0 parts none", x.bestSalvo(what), third[what]);
            s.told(x, 1, 0);
            int[] last = {0, 2, 1};
            for (int what = 0; what < 3; what++) s.due("0 and 2: the one at 2 or not", x.bestSalvo(what), last[what]);
            x = s.on(6, 6, false, 1, 0);
            for (int c = 0; c < 29; c++) s.told(x, c, 0);
            int[] end = {29, 30, 5};
            for (int what = 0; what < 3; what++) s.due("two of seven", x.bestSalvo(what), end[what]);
            x = s.on(2, 2, false, 1, 0, 1, 0);
            int[] both = {0, 1, 8};
            for (int what = 0; what < 3; what++) s.due("two, eight and two", x.bestSalvo(what), both[what]);
            x = s.on(3, 4, false, 7, 1);
            s.told(x, 0, 0);
            s.told(x, 1, 0);
            s.told(x, 2, 0);
            int[] three = {3, 4, 3};
            for (int what = 0; what < 3; what++) s.due("3 and 4: one, two and three of six", x.bestSalvo(what), three[what]);
            x = s.on(3, 3, false, 7, 1);
            int[] six = {0, 1, 3};
            for (int what = 0; what < 3; what++) s.due("0 and 1: one, two and three of six", x.bestSalvo(what), six[what]);
            s.told(x, 4, 1);
            int[] two = {0, 1, 1};
            for (int what = 0; what < 3; what++) s.due("row 1, or column 1: 1", x.bestSalvo(what), two[what]);
            s.due("the one empty laying", new SquaredShips().bestSalvo(0), 0);
            s.due("the one empty laying", new SquaredShips().bestSalvo(1), 1);
            s.due("the one empty laying", new SquaredShips().bestSalvo(2), 1);
        });
    }

    /** What the caller calls, if it is laying k, call by call: the best of those that are left by the true answers. */
    private static void follows(SquaredShips x, SquaredShips other, int k) {
        int need = x.need(k);
        for (int i = 0; i < need; i++) {
            s.holds("they can be parted yet", other.best(1) < other.left());
            s.due("call " + i + " for laying " + k, x.calls(k, i), other.best(0));
            other.call(other.best(0));
            other.answer(i, other.truth(k, i));
        }
        s.due("no more for laying " + k, x.calls(k, need), NONE);
        s.due("no more for laying " + k, other.best(1), other.left());
    }

    private static void caller() {
        s.in("======== 3");
        s.says("THE CALLER knows of no CALLS, LIES, DRIFT, as if none were told:", () -> {
            SquaredShips x = s.on(3, 2, true, 3, 0, 1, 0);
            int[] needs = new int[24];
            s.due("layings", x.layings(), 24);
            for (int k = 0; k < 24; k++) needs[k] = x.need(k);
            s.due("hardest", x.hardest(2) > 24 ? 1 : 0, 1);
            int sum = x.hardest(2), first = x.calls(5, 0), second = x.calls(5, 1);
            x.drift(1, 1);
            s.told(x, 0, 0);
            s.told(x, 1, 2);
            s.told(x, 2, 1);
            x.set(2, 2);
            for (int k = 0; k < 24; k++) s.due("need", x.need(k), needs[k]);
            s.due("hardest", x.hardest(2), sum);
            s.due("calls", x.calls(5, 0), first);
            s.due("calls", x.calls(5, 1), second);
        });
        s.says("of LAYINGS that can be yet (all at first) it calls the one CELL whose greatest PART (of these) is least, of several the least CELL,", () -> {
            SquaredShips x = s.on(3, 3, false, 3, 0);
            // 1 parts 0, 1 and 1, 2 from the four below; 0 parts those two; 4 and then 3 and 6 part the others.
            s.due("first", x.calls(0, 0), 1);
            s.due("0, 1", x.calls(0, 1), 0);
            s.due("1, 2", x.calls(1, 1), 0);
            s.due("3, 4", x.calls(2, 1), 4);
            s.due("3, 4", x.calls(2, 2), 3);
            s.due("6, 7", x.calls(4, 2), 6);
            s.due("7, 8", x.calls(5, 2), 6);
            x = s.on(2, 2, false, 1, 0);
            for (int i = 0; i < 3; i++) s.due("of several the least", x.calls(3, i), i);
            int[][] ships = {{3, 1, 1, 0}, {7, 1}, {1, 0, 1, 0, 3, 0}, {1, 0, 17, 0}};
            for (int[] one : ships) {
                for (int sunk = 0; sunk < 2; sunk++) {
                    x = s.on(3, 2, true, one);
                    x.set(1, sunk);
                    for (int k = 0; k < x.layings() && k < 30; k += 2) {
                        SquaredShips other = s.on(3, 2, true, one);
                        other.set(1, sunk);
                        follows(x, other, k);
                    }
                }
            }
        });
        s.says("till just one LAYING can be, or no CALL parts them.", () -> {
            SquaredShips x = s.on(2, 2, false, 1, 0);
            s.due("just one", x.calls(0, 1), NONE);
            s.due("just one", x.calls(3, 3), NONE);
            x = s.on(2, 2, false, 51, 0);
            s.due("one from the first", x.need(0), 0);
            s.due("no call", x.calls(0, 0), NONE);
            x = s.on(2, 2, false, 17, 0, 17, 0);
            s.due("two that fill the paper", x.layings(), 2);
            s.due("none parts them", x.need(0), 0);
            s.due("none parts them", x.calls(1, 0), NONE);
            x = s.on(3, 2, false, 3, 0, 3, 0);
            // Eight: 0 and 3 tell where the two lie; which of them is which is never found out, but where they sink.
            for (int k = 0; k < 8; k++) s.due("alike in twos", x.need(k), 2);
        });
        s.says("NEED of a LAYING: how many CALLS it makes till then, if that is it.", () -> {
            SquaredShips x = s.on(2, 2, false, 1, 0);
            int[] needs = {1, 2, 3, 3};
            for (int k = 0; k < 4; k++) s.due("need", x.need(k), needs[k]);
            x = s.on(3, 3, false, 3, 0);
            int[] dominoes = {2, 2, 3, 3, 3, 3};
            for (int k = 0; k < 6; k++) s.due("need", x.need(k), dominoes[k]);
            x = s.on(3, 2, false, 1, 0, 7, 0);
            s.due("layings", x.layings(), 6);
            // 0 is sunk, hit or missed; each cell of the row sinks but the three of the other.
            s.due("sunk at once", x.need(0), 1);
            int[][] sums = {{119, 108}, {192, 176}};
            for (int sunk = 0; sunk < 2; sunk++) {
                x = s.on(3, 2, false, 3, 1, 1, 0);
                x.set(1, sunk);
                s.due("all needs", x.hardest(2), sums[0][sunk]);
                x = s.on(3, 2, false, 1, 0, 1, 0, 3, 0);
                x.set(1, sunk);
                s.due("all needs", x.hardest(2), sums[1][sunk]);
            }
        });
        s.says("HARDEST: the LAYING with the greatest NEED, of several the first.", () -> {
            SquaredShips x = s.on(2, 2, false, 1, 0);
            s.due("2 and 3 need three", x.hardest(0), 2);
            x = s.on(3, 3, false, 3, 0);
            s.due("2 .. 5 need three", x.hardest(0), 2);
            s.due("three", x.hardest(1), 3);
            s.due("all together", x.hardest(2), 16);
            s.due("all need none", s.on(2, 2, false, 17, 0, 17, 0).hardest(0), 0);
            x = s.layings400();
            s.due("of 400", x.hardest(0), 12);
            s.due("of 400", x.hardest(1), 11);
            s.due("of 400", x.hardest(2), 3416);
        });
        s.says("CROWDED: there are more than 400 LAYINGS.", () -> {
            SquaredShips x = s.layings400();
            s.holds("400 are no crowd", x.need(399) > 0 && x.hardest(0) >= 0 && x.clues(0) >= NONE);
            s.due("400 are no crowd", x.switched(0), NOT);
            x = s.layings401();
            s.due("401 are", x.need(0), SPENT);
            s.due("401 are", x.hardest(0), SPENT);
            s.due("401 are", x.clues(0), SPENT);
            s.due("401 are", x.switched(0), SPENT);
            x.set(0, 0);
            s.holds("more are", x.layings() > 401 && x.need(0) == SPENT);
        });
    }

    /** A single cell that was not there, wherever it was called. */
    private static SquaredShips missedEverywhere() {
        SquaredShips x = s.on(2, 2, false, 1, 0);
        for (int c = 0; c < 4; c++) s.told(x, c, 0);
        return x;
    }

    private static void papers() {
        s.in("======== 4");
        s.says("STRAY: the first CALL with whose ANSWER (and all ahead) no LAYING is LEFT, no LIES allowed.", () -> {
            SquaredShips x = s.on(3, 2, false, 1, 0);
            s.told(x, 0, 0);
            s.told(x, 0, 2);
            s.due("call 1", x.stray(), 1);
            x.set(2, 2);
            s.due("no lies allowed", x.stray(), 1);
            s.due("though all are left", x.left(), 6);
            x.answer(0, 1);
            s.due("call 0: a single cell is sunk at once", x.stray(), 0);
            x.lose(0);
            s.due("none sinks at the second call of a cell", x.stray(), 1);
            x.answer(1, 1);
            s.due("fine", x.stray(), NONE);
            s.told(x, 1, 0);
            s.told(x, 2, 2);
            s.due("call 3", x.stray(), 3);
            x.lose(1);
            s.due("fine", x.stray(), NONE);
            s.due("missed everywhere: the last cell", missedEverywhere().stray(), 3);
        });
        s.says("BLAME: the fewest told ANSWERS that are other than TRUE by some LAYING;", () -> {
            SquaredShips x = s.on(2, 2, false, 1, 0);
            s.due("none told", x.blame(), 0);
            s.told(x, 0, 2);
            s.due("none", x.blame(), 0);
            s.told(x, 1, 2);
            s.due("one of them", x.blame(), 1);
            s.told(x, 2, 2);
            s.due("two of them", x.blame(), 2);
            x.call(3);
            s.due("a lost one is none", x.blame(), 2);
            for (int n = 4; n < 30; n++) s.told(x, 3, n % 2);
            s.due("0, 1, 2 are two wrong, and thirteen of the others", x.blame(), 15);
            s.due("missed everywhere: one", missedEverywhere().blame(), 1);
        });
        s.says("BLAMED: the CALLS of these by the first LAYING with so few.", () -> {
            SquaredShips x = s.on(2, 2, false, 1, 0);
            s.told(x, 0, 2);
            s.told(x, 1, 2);
            s.due("laying 0: call 1", x.blamed(), 2);
            s.told(x, 2, 2);
            s.due("laying 0: calls 1 and 2", x.blamed(), 6);
            s.told(x, 2, 1);
            s.due("laying 2 has one wrong less", x.blamed(), 3);
            s.told(x, 3, 0);
            s.due("the same", x.blamed(), 3);
            s.due("missed everywhere: laying 0", missedEverywhere().blamed(), 1);
        });
        s.says("SWITCHED: the first CALL k (and then the least SHIP s),", () -> {
            SquaredShips x = s.on(3, 2, false, 1, 0, 1, 0);
            s.told(x, 0, 2);
            s.told(x, 5, 0);
            s.told(x, 0, 0);
            s.told(x, 4, 0);
            // It may have gone from 0 ahead of call 1, or of call 2: the first. Either ship may have gone: the least.
            s.due("call", x.switched(0), 1);
            s.due("ship", x.switched(1), 0);
            s.told(x, 5, 1);
            s.due("it went to 5 behind the call of 5", x.switched(0), 2);
            x = s.on(2, 2, false, 1, 0);
            s.told(x, 0, 0);
            for (int n = 1; n < 29; n++) s.told(x, 3, 0);
            s.told(x, 3, 2);
            s.due("3 was sunk at the last call", x.switched(0), NONE);
            s.due("no ship either", x.switched(1), NONE);
            s.due("missed everywhere: from 1 to 0", missedEverywhere().switched(0), 1);
            s.due("ship", missedEverywhere().switched(1), 0);
        });
        switched();
    }

    private static void switched() {
        s.says("so that there are two LAYINGS that differ in the SPOT of s alone, by one of which all told ANSWERS of CALLS ahead of k are TRUE, by the other those of k and behind", () -> {
            SquaredShips x = s.on(2, 2, false, 1, 0);
            s.told(x, 0, 2);
            s.told(x, 1, 2);
            s.due("0, then 1", x.switched(0), 1);
            s.told(x, 2, 2);
            s.due("0, 1, 2: twice", x.switched(0), NONE);
            x.lose(0);
            s.due("1, then 2", x.switched(0), 2);
            x.lose(1);
            s.due("2 alone", x.switched(0), NOT);
            x = s.on(3, 2, false, 1, 0, 3, 0);
            s.told(x, 0, 2);
            s.told(x, 1, 1);
            s.told(x, 3, 2);
            s.due("the single cell went from 0 to 3, at the first call that may be", x.switched(0), 1);
            s.due("ship", x.switched(1), 0);
            s.told(x, 5, 1);
            s.told(x, 4, 2);
            s.due("both went", x.switched(0), NONE);
            x = s.on(3, 2, false, 1, 0, 3, 0);
            s.told(x, 0, 2);
            s.told(x, 1, 1);
            s.told(x, 4, 1);
            s.due("the domino went below", x.switched(0), 2);
            s.due("ship", x.switched(1), 1);
            x = s.on(3, 2, false, 1, 0, 1, 0, 1, 0);
            for (int c = 0; c < 3; c++) s.told(x, c, 2);
            s.told(x, 4, 1);
            s.due("4 was never told as sunk", x.switched(0), NONE);
            x.answer(3, 2);
            s.due("0, 1, 2 are called ahead of it", x.switched(0), 1);
            x = s.on(6, 6, false, 1, 0);
            s.told(x, 0, 2);
            s.told(x, 35, 2);
            s.due("from corner to corner", x.switched(0), 1);
            s.due("ship", x.switched(1), 0);
            x.answer(0, 0);
            x.call(0);
            x.answer(2, 2);
            s.due("35, and then 0, which was called in vain", x.switched(0), NONE);
            x = s.on(6, 6, false, 1, 0);
            s.told(x, 35, 2);
            s.told(x, 0, 2);
            s.due("from the last laying to the first", x.switched(0), 1);
            s.due("ship", x.switched(1), 0);
            x = s.on(3, 2, false, 17, 0, 17, 0, 1, 0);
            s.told(x, 0, 1);
            s.told(x, 1, 1);
            s.told(x, 2, 2);
            s.told(x, 2, 0);
            s.told(x, 5, 2);
            s.due("the single cell went from 2 to 5", x.switched(0), 3);
            s.due("ship", x.switched(1), 2);
        });
        s.says("(each reckoned by itself with all CALLS).", () -> {
            SquaredShips x = s.on(2, 2, false, 3, 0);
            s.told(x, 0, 1);
            s.told(x, 2, 1);
            s.told(x, 3, 2);
            s.due("0, 1 and then 2, 3", x.switched(0), 1);
            x = s.on(3, 2, false, 7, 0);
            s.told(x, 0, 1);
            s.told(x, 3, 0);
            s.told(x, 1, 1);
            s.told(x, 4, 1);
            s.told(x, 5, 1);
            // 3 was called, and by the row below it is hit there, whatever was told: 5 sinks it.
            s.due("5 would be sunk", x.switched(0), NONE);
            x.answer(4, 2);
            s.due("the row below, 3 too", x.switched(0), 3);
            x = s.on(3, 2, true, 1, 0);
            x.drift(1, 0);
            s.told(x, 0, 2);
            s.told(x, 2, 2);
            // By laying 1, cell 1: missed at 0, it drifts to 2 and is hit there.
            s.due("0, then 1, which drifted to 2", x.switched(0), 1);
            s.due("ship", x.switched(1), 0);
        });
    }

    private static void rims() {
        s.in("======== 5");
        s.says("RIMS: rows 0 .. h - 1 and columns h .. h + w - 1;", () -> {
            SquaredShips x = s.on(4, 2, false, 15, 0);
            int[] first = {4, 0, 1, 1, 1, 1};
            int[] second = {0, 4, 1, 1, 1, 1};
            for (int r = 0; r < 6; r++) {
                s.due("rim " + r, x.rim(0, r), first[r]);
                s.due("rim " + r, x.rim(1, r), second[r]);
            }
            s.due("rim 6", x.rim(0, 6), UNKNOWN);
            s.due("rim -1", x.rim(0, -1), UNKNOWN);
            s.due("count 5", x.count(5, 0), NONE);
            s.due("count 6", x.count(6, 0), UNKNOWN);
            x = s.on(6, 6, false, 1, 0);
            s.due("the last column", x.rim(35, 11), 1);
            s.due("the last row", x.rim(35, 5), 1);
            s.due("rim 12", x.rim(35, 12), UNKNOWN);
            x = s.on(2, 3, false, 0x111, 0);
            int[] standing = {1, 1, 1, 0, 3};
            for (int r = 0; r < 5; r++) s.due("rim " + r, x.rim(1, r), standing[r]);
        });
        s.says("a COUNT of a RIM is how many of its CELLS have a SHIP.", () -> {
            SquaredShips x = s.on(6, 3, true, 31, 0, 3, 0, 1, 0);
            for (int k = 0; k < 5; k++) {
                long set = x.spot(0, x.laid(k, 0)) | x.spot(1, x.laid(k, 1)) | x.spot(2, x.laid(k, 2));
                for (int r = 0; r < 9; r++) {
                    int n = 0;
                    for (int c = 0; c < 18; c++) if ((set >> c & 1) == 1 && (r < 3 ? c / 6 == r : c % 6 == r - 3)) n++;
                    s.due("rim " + r + " by laying " + k, x.rim(k, r), n);
                }
            }
            s.due("six at most", s.on(6, 2, false, 7, 0, 7, 0).rim(0, 0), 6);
            s.due("none", s.on(6, 2, false, 7, 0, 7, 0).rim(0, 1), 0);
            s.due("three each", s.on(6, 2, false, 7, 0, 7, 0).rim(1, 1), 3);
        });
        s.says("COUNTS may be told. FITTING are LAYINGS (of no CALLS) with all told COUNTS.", () -> {
            SquaredShips x = s.on(3, 2, true, 3, 0);
            s.due("none told", x.fitting(), 6);
            x.count(0, 0);
            s.due("0 is a count", x.fitting(), 3);
            x.count(4, 0);
            s.due("two counts", x.fitting(), 1);
            x.drift(1, 0);
            s.told(x, 0, 2);
            s.told(x, 1, 2);
            s.due("of no calls", x.fitting(), 1);
            x.count(1, 6);
            s.due("more than there can be", x.fitting(), 0);
            s.due("no layings", s.noLayings().fitting(), 0);
        });
        s.says("CLUES of a LAYING: the fewest RIMS, so that no other LAYING has SHIPS in other CELLS and the same COUNTS there", () -> {
            SquaredShips x = s.on(2, 2, false, 1, 0);
            s.due("row 0 and column 0", x.clues(0), 5);
            s.due("row 0 and column 0 for 3, too", x.clues(3), 5);
            s.due("row alone", s.on(4, 2, false, 15, 0).clues(1), 1);
            s.due("column alone", s.on(2, 4, false, 0x1111, 0).clues(0), 16);
            s.due("one laying needs none", s.on(2, 2, false, 51, 0).clues(0), 0);
            s.due("the empty one", new SquaredShips().clues(0), 0);
        });
        s.says("(LAYINGS with SHIPS in all the same CELLS do not matter);", () -> {
            s.due("two in the same cells", s.on(2, 2, false, 17, 0, 17, 0).clues(1), 0);
            SquaredShips x = s.on(3, 2, false, 17, 0, 17, 0);
            s.due("columns 0 and 1, in two orders", x.clues(0), x.clues(2));
            s.due("column 2 alone has none", x.clues(0), 16);
        });
        s.says("as a set by bits, of several the least number;", () -> {
            SquaredShips x = s.on(3, 3, false, 1, 0);
            s.due("4: row 1 and column 1", x.clues(4), 18);
            s.due("0: row 0 and column 0", x.clues(0), 9);
            s.due("8: row 2 and column 2", x.clues(8), 36);
            s.due("on 6 by 6 the last", s.on(6, 6, false, 1, 0).clues(35), 1 << 5 | 1 << 11);
            x = s.on(2, 4, false, 3, 0);
            s.due("row 1, not row 3", x.clues(1), 2);
        });
        s.says("none, if not even all RIMS do.", () -> {
            SquaredShips x = s.on(2, 2, false, 18, 1);
            s.due("either diagonal", x.clues(0), NONE);
            s.due("either diagonal", x.clues(1), NONE);
            x = s.on(3, 2, false, 18, 1);
            s.due("0, 4 has the same counts as 1, 3", x.clues(0), NONE);
        });
    }

    private static void refusals() {
        s.in("Refused, ");
        s.says("UNKNOWN (no such CELL, SHIP, CALL, LAYING, RIM),", () -> {
            SquaredShips x = s.on(3, 2, false, 1, 0, 1, 0);
            x.call(0);
            for (int bad : new int[] {LOW, -1}) {
                s.due("cell", x.call(bad), UNKNOWN);
                s.due("ship", x.spots(bad), UNKNOWN);
                s.due("call", x.lose(bad), UNKNOWN);
                s.due("laying", x.need(bad), UNKNOWN);
                s.due("rim", x.count(bad, 0), UNKNOWN);
            }
            s.due("cell", x.call(6), UNKNOWN);
            s.due("ship", x.spots(2), UNKNOWN);
            s.due("call", x.lose(1), UNKNOWN);
            s.due("laying", x.need(30), UNKNOWN);
            s.due("rim", x.count(5, 0), UNKNOWN);
            s.due("cell", x.call(HIGH), UNKNOWN);
            s.due("ship", x.spots(HIGH), UNKNOWN);
            s.due("call", x.lose(HIGH), UNKNOWN);
            s.due("laying", x.need(HIGH), UNKNOWN);
            s.due("rim", x.count(HIGH, 0), UNKNOWN);
        });
        s.says("OUTSIDE (another number is not as told),", () -> {
            SquaredShips x = s.on(2, 2, true, 1, 0);
            for (int bad : new int[] {LOW, -2, 8, HIGH}) {
                s.due("grid", x.grid(bad, 2, true), OUTSIDE);
                s.due("ship", x.ship(1, bad), OUTSIDE);
                s.due("set", x.set(bad, 0), OUTSIDE);
                s.due("drift", x.drift(bad, 0), OUTSIDE);
                s.due("spot", x.spot(0, bad), OUTSIDE);
                s.due("count", x.count(0, bad), OUTSIDE);
                s.due("many", x.many(bad), OUTSIDE);
            }
        });
        s.says("NOT (not now: as told),", () -> {
            SquaredShips x = s.on(2, 2, false, 1, 0);
            s.due("drift", x.drift(0, 0), NOT);
            s.due("back", x.back(), NOT);
            s.due("switched", x.switched(0), NOT);
            x.call(0);
            s.due("ship", x.ship(1, 0), NOT);
            s.due("lose", x.lose(0), NOT);
        });
        s.says("FULL,", () -> {
            SquaredShips x = s.on(2, 2, false, 1, 0, 1, 0, 1, 0);
            s.due("ship", x.ship(1, 0), FULL);
            for (int n = 0; n < 30; n++) x.call(0);
            s.due("call", x.call(0), FULL);
            s.due("salvo", x.salvo(0, 1), FULL);
        });
        s.says("SPENT (TOO MANY, or CROWDED where told):", () -> {
            SquaredShips x = s.layings401();
            s.due("laid", x.laid(400, 0) >= 0 ? 1 : 0, 1);
            s.due("left", x.left(), 401);
            s.due("which", x.which(400), 400);
            s.due("part", x.part(0, 0) > 0 ? 1 : 0, 1);
            s.due("best", x.best(0) >= 0 ? 1 : 0, 1);
            s.due("best salvo", x.bestSalvo(0) >= 0 ? 1 : 0, 1);
            s.due("calls", x.calls(400, 0), x.best(0));
            s.due("stray", x.stray(), NONE);
            s.due("blame", x.blame(), 0);
            s.due("blamed", x.blamed(), 0);
            s.due("rim", x.rim(400, 0) >= 0 ? 1 : 0, 1);
            s.due("fitting", x.fitting(), 401);
        });
    }

    private static void use() {
        s.in("## What it is");
        s.says("An object is used for at most 512 calls after it has been made;", () -> {
            SquaredShips x = new SquaredShips();
            for (int n = 0; n < 170; n++) {
                x.grid(2 + n % 5, 2 + n / 5 % 5, n % 2 == 0);
                x.ship(1, 0);
                s.due("call " + (3 * n + 3), x.layings(), (2 + n % 5) * (2 + n / 5 % 5));
            }
            s.due("call 511", x.many(1), 1);
            s.due("call 512", x.left(), (2 + 169 % 5) * (2 + 169 / 5 % 5));
        });
    }

    public static void main(String[] args) {
        use();
        theGrid();
        ships();
        spots();
        layings();
        calls();
        drift();
        told();
        parts();
        caller();
        papers();
        rims();
        refusals();
        s.end(args);
    }
}
