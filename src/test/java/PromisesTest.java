/** Every promise by itself: plain cases, the edges that the document names, and wrong inputs. */
public final class PromisesTest {
    private static final int NONE = -1, UNKNOWN = -2, OUTSIDE = -3, NOT = -4, FULL = -5, SPENT = -6;
    private static final int LOW = Integer.MIN_VALUE, HIGH = Integer.MAX_VALUE;

    private static int wrong = 0;
    private static int promise = 0;

    private static void due(String call, long got, long want) {
        if (got != want) {
            wrong++;
            System.out.println("promise " + promise + ": " + call + " answered " + got + ", due is " + want);
        }
    }

    /** A grid with ships, each told by its shape and turns. */
    private static SquaredShips on(int w, int h, boolean wraps, int... ships) {
        SquaredShips x = new SquaredShips();
        due("grid", x.grid(w, h, wraps), w * h);
        for (int i = 0; i + 1 < ships.length; i += 2) due("ship", x.ship(ships[i], ships[i + 1]), i / 2);
        return x;
    }

    /** Three single cells on 25 make 15625 combinations. */
    private static SquaredShips tooMany() {
        return on(5, 5, false, 1, 0, 1, 0, 1, 0);
    }

    /** Two single cells on 25 make 600 layings. */
    private static SquaredShips crowded() {
        return on(5, 5, false, 1, 0, 1, 0);
    }

    /** A crowd begins beyond 400 layings. */
    private static SquaredShips just(int layings) {
        SquaredShips x = layings == 400 ? on(4, 4, true, 3, 0, 3, 1) : on(3, 6, false, 1, 0, 35, 1);
        x.set(0, layings == 400 ? 0 : 1);
        due("layings", x.layings(), layings);
        return x;
    }

    /** Two dominoes upright on 2 by 2, the only spots of each: side by side in two orders. */
    private static SquaredShips twoUpright() {
        return on(2, 2, false, 17, 0, 17, 0);
    }

    private static void told(SquaredShips x, int cell, int v) {
        int number = x.call(cell);
        due("answer", x.answer(number, v), NONE);
    }

    private static void p1() {
        SquaredShips x = new SquaredShips();
        due("many(0)", x.many(0), 25);
        for (int what = 1; what <= 4; what++) due("many", x.many(what), 0);
        due("layings", x.layings(), 1);
        due("left", x.left(), 1);
        due("drift", x.drift(1, 0), NOT);
        due("touch at first", x.set(0, 0), 0);
        due("sunk at first", x.set(1, 1), 1);
        due("lies at first", x.set(2, 0), 0);
        due("a cell of row 4", x.call(24), 0);
        due("no cell", x.call(25), UNKNOWN);
        due("rim", x.count(9, 1), NONE);
        due("no rim", x.count(10, 1), UNKNOWN);
    }

    private static void p2() {
        SquaredShips x = new SquaredShips();
        due("grid(2, 6)", x.grid(2, 6, false), 12);
        due("grid(6, 6)", x.grid(6, 6, true), 36);
        int[] bad = {1, 7, 0, -1, LOW, HIGH};
        x.ship(3, 0);
        x.call(3);
        x.count(2, 2);
        for (int b : bad) {
            due("grid(b, 3)", x.grid(b, 3, true), OUTSIDE);
            due("grid(3, b)", x.grid(3, b, false), OUTSIDE);
        }
        due("still 36", x.many(0), 36);
        due("still a ship", x.many(1), 1);
        due("still a call", x.many(2), 1);
        due("still a count", x.many(4), 1);
        x.set(0, 2);
        x.set(1, 0);
        x.set(2, 2);
        x.drift(1, 1);
        due("grid(4, 3)", x.grid(4, 3, true), 12);
        for (int what = 1; what <= 4; what++) due("gone", x.many(what), 0);
        due("touch stays", x.set(0, 0), 2);
        due("sunk stays", x.set(1, 1), 0);
        due("lies stay", x.set(2, 0), 2);
        x.ship(1, 0);
        x.call(5);
        due("no drift any more", x.lies(0, 0, 1), 1);
        due("the count is gone", x.count(2, 7), NONE);
        due("it wraps", x.drift(1, 0), 1);
        due("grid", x.grid(4, 3, false), 12);
        due("it does not", x.drift(1, 0), NOT);
    }

    private static void p3() {
        SquaredShips x = new SquaredShips();
        int[] bad = {0, 65536, -1, 63, 65535, LOW, HIGH, 65537};
        for (int b : bad) due("shape", x.ship(b, 0), OUTSIDE);
        int[] turns = {-1, 3, LOW, HIGH};
        for (int t : turns) due("turns", x.ship(1, t), OUTSIDE);
        due("five bits", x.ship(31, 0), 0);
        due("the last bit alone", x.ship(32768, 2), 1);
        due("the last bit lies anywhere", x.spots(1), 25);
        x.call(0);
        due("there are calls", x.ship(1, 0), NOT);
        due("outside ahead of it", x.ship(0, 0), OUTSIDE);
        x.back();
        due("none any more", x.ship(1, 0), 2);
        due("full", x.ship(1, 0), FULL);
        due("outside ahead of full", x.ship(1, 3), OUTSIDE);
        x.call(0);
        due("not ahead of full", x.ship(1, 0), NOT);
        due("three", x.many(1), 3);
    }

    private static void p4() {
        SquaredShips x = new SquaredShips();
        int[][] bad = {{-1, 0}, {3, 0}, {0, -1}, {0, 3}, {1, -1}, {1, 2}, {2, -1}, {2, 3}, {LOW, 0}, {0, HIGH}};
        for (int[] b : bad) due("set", x.set(b[0], b[1]), OUTSIDE);
        due("touch", x.set(0, 2), 0);
        due("touch", x.set(0, 1), 2);
        due("sunk", x.set(1, 0), 1);
        due("sunk", x.set(1, 1), 0);
        due("lies", x.set(2, 2), 0);
        due("lies", x.set(2, 1), 2);
        x.ship(1, 0);
        x.call(0);
        due("also with calls", x.set(0, 0), 1);
    }

    private static void p5() {
        SquaredShips x = on(3, 3, true, 1, 0);
        int[] bad = {-2, 2, LOW, HIGH};
        for (int b : bad) {
            due("drift", x.drift(b, 0), OUTSIDE);
            due("drift", x.drift(0, b), OUTSIDE);
        }
        due("drift", x.drift(-1, 1), 1);
        x.call(8);
        due("left and down, over the rim", x.lies(0, 0, 1), 1L << 5);
        due("also with calls", x.drift(0, -1), 1);
        due("up over the rim", x.lies(0, 0, 1), 1L << 6);
        due("none", x.drift(0, 0), 1);
        due("none", x.lies(0, 0, 1), 1);
        x.grid(3, 3, false);
        due("no wrap", x.drift(1, 1), NOT);
        due("no wrap, not even none", x.drift(0, 0), NOT);
        due("outside ahead", x.drift(2, 1), OUTSIDE);
    }

    private static void p6() {
        SquaredShips x = on(3, 2, false, 35, 0, 35, 1, 35, 2);
        due("an L that stands needs three rows or not", x.spots(0), 2);
        due("turned", x.spots(1), 8);
        due("mirrored", x.spots(2), 8);
        due("none", x.spots(3), UNKNOWN);
        due("none", x.spots(-1), UNKNOWN);
        x = on(4, 4, false, 113, 0, 113, 1, 113, 2);
        due("a long L", x.spots(0), 6);
        due("turned", x.spots(1), 24);
        due("mirrored", x.spots(2), 48);
        x = on(6, 6, true, 113, 2, 15, 1, 34, 0);
        due("288 at most", x.spots(0), 288);
        due("36 lying, 36 standing", x.spots(1), 72);
        due("the shape's bits begin at column 1", x.spots(2), 36);
        x = on(2, 2, true, 7, 0, 3, 0, 3, 1);
        due("three in a row fall together", x.spots(0), 0);
        due("the same set just once", x.spots(1), 2);
        due("likewise, turned", x.spots(2), 4);
        x = on(2, 2, false, 5, 0, 3, 0);
        due("too wide", x.spots(0), 0);
        due("lying", x.spots(1), 2);
    }

    private static void p7() {
        SquaredShips x = on(3, 3, true, 3, 0, 18, 0);
        long[] dominoes = {3, 5, 6, 24, 40, 48, 192, 320, 384};
        for (int k = 0; k < 9; k++) due("spot", x.spot(0, k), dominoes[k]);
        due("diagonal to the left below", x.spot(1, 0), 10);
        due("no more", x.spot(0, 9), OUTSIDE);
        due("less than none", x.spot(0, -1), OUTSIDE);
        due("no ship", x.spot(2, 0), UNKNOWN);
        due("unknown ahead", x.spot(-1, -1), UNKNOWN);
        x = on(6, 6, false, 32768, 0);
        due("the last cell", x.spot(0, 35), 1L << 35);
        x = on(4, 2, false, 113, 0, 113, 1, 113, 2);
        due("as told: one above the left of three", x.spot(0, 0), 1 | 7 << 4);
        due("moved", x.spot(0, 1), 2 | 14 << 4);
        due("turned by half: three, one below their right", x.spot(1, 0), 7 | 4 << 4);
        due("mirrored: three, one below their left", x.spot(2, 0), 7 | 1 << 4);
        due("moved", x.spot(2, 1), 14 | 2 << 4);
        due("in between", x.spot(2, 2), 7 | 4 << 4);
    }

    private static void p8() {
        due("without ships", new SquaredShips().layings(), 1);
        due("too many", tooMany().layings(), SPENT);
        due("600", crowded().layings(), 600);
        SquaredShips x = on(5, 4, false, 1, 0, 1, 0, 3, 0);
        due("6400 combinations", x.layings(), 16 * 18 * 17);
        x = on(5, 5, false, 1, 0, 1, 0, 51, 0);
        due("10000 are not too many", x.layings(), 16 * 21 * 20);
        x = on(6, 6, true, 113, 2, 113, 2);
        due("82944", x.layings(), SPENT);
        x = on(2, 2, false, 1, 0, 1, 0, 15, 0);
        due("a ship with no spot", x.layings(), 0);
        x = on(3, 3, false, 1, 0, 1, 0);
        due("no cell in common", x.layings(), 72);
        x.set(0, 1);
        due("not side by side", x.layings(), 72 - 24);
        x.set(0, 2);
        due("nor corner to corner", x.layings(), 72 - 24 - 16);
        x = on(3, 3, true, 1, 0, 1, 0);
        x.set(0, 1);
        due("side by side over the rim", x.layings(), 9 * 4);
        x.set(0, 2);
        due("corner to corner over the rim", x.layings(), 0);
        x = on(4, 2, true, 1, 0, 1, 0);
        x.set(0, 1);
        due("width 4, height 2", x.layings(), 8 * 4);
        x.set(0, 2);
        due("likewise", x.layings(), 8 * 2);
        x = on(6, 2, false, 1, 0, 1, 0, 1, 0);
        x.set(0, 2);
        due("three, none of them touching", x.layings(), 6 * 32);
    }

    private static void p9() {
        SquaredShips x = on(2, 2, false, 1, 0, 1, 0);
        int[][] laid = {{0, 1}, {0, 2}, {0, 3}, {1, 0}, {1, 2}, {1, 3}, {2, 0}, {2, 1}, {2, 3}, {3, 0}, {3, 1}, {3, 2}};
        for (int k = 0; k < 12; k++) {
            due("ship 0", x.laid(k, 0), laid[k][0]);
            due("ship 1", x.laid(k, 1), laid[k][1]);
        }
        due("no laying", x.laid(12, 0), UNKNOWN);
        due("no laying", x.laid(-1, 0), UNKNOWN);
        due("no ship", x.laid(0, 2), UNKNOWN);
        x = on(2, 2, false, 1, 0, 1, 0, 1, 0);
        due("the third", x.laid(0, 2), 2);
        due("the third", x.laid(1, 2), 3);
        due("the second", x.laid(2, 1), 2);
        x = tooMany();
        due("spent", x.laid(0, 0), SPENT);
        due("spent ahead of no laying", x.laid(-1, 2), SPENT);
        due("no ship ahead of spent", x.laid(0, 3), UNKNOWN);
        x = on(6, 6, true, 113, 2);
        due("spot 287", x.laid(287, 0), 287);
        x = on(5, 5, false, 1, 0, 1, 0, 51, 0);
        due("the last", x.laid(6719, 0), 24);
        due("the last", x.laid(6719, 1), 23);
        due("the last that has neither cell", x.laid(6719, 2), 13);
    }

    private static void p10() {
        SquaredShips x = on(2, 3, false, 3, 0);
        int[] bad = {-1, 6, LOW, HIGH};
        for (int b : bad) due("no cell", x.call(b), UNKNOWN);
        for (int n = 0; n < 30; n++) due("number", x.call(n % 6), n);
        due("full", x.call(0), FULL);
        due("unknown ahead", x.call(6), UNKNOWN);
        due("lost yet", x.many(3), 0);
        due("lost yet", x.left(), 3);
        due("thirty", x.many(2), 30);
        due("one less", x.back(), 29);
        due("again", x.call(5), 29);
    }

    private static void p11() {
        SquaredShips x = on(2, 3, false, 3, 0);
        int[] bad = {-1, 6, LOW, HIGH};
        for (int b : bad) {
            due("no cell", x.salvo(b, 0), UNKNOWN);
            due("no cell", x.salvo(0, b), UNKNOWN);
            due("unknown ahead", x.salvo(b, b), UNKNOWN);
        }
        due("one and itself", x.salvo(3, 3), OUTSIDE);
        for (int n = 0; n < 30; n++) due("number", x.salvo(5, n % 5), n);
        due("full", x.salvo(0, 1), FULL);
        due("outside ahead", x.salvo(0, 0), OUTSIDE);
        due("lost yet", x.lose(29), NOT);
    }

    private static void p12() {
        SquaredShips x = on(2, 2, false, 3, 0);
        due("no call", x.answer(0, 0), UNKNOWN);
        x.call(0);
        x.salvo(0, 1);
        due("was lost", x.answer(0, 1), NONE);
        due("left", x.left(), 1);
        due("which it was", x.answer(0, 0), 1);
        due("which it was", x.answer(0, 2), 0);
        due("none is true", x.left(), 0);
        due("which it was", x.answer(0, 0), 2);
        due("the other", x.answer(1, 2), NONE);
        due("left", x.left(), 0);
        due("the other", x.answer(1, 0), 2);
        due("left", x.left(), 1);
        due("less", x.answer(0, -1), OUTSIDE);
        due("more", x.answer(0, 3), OUTSIDE);
        due("no call", x.answer(2, 0), UNKNOWN);
        due("unknown ahead", x.answer(-1, 3), UNKNOWN);
        due("two are told", x.many(3), 2);
    }

    private static void p13() {
        SquaredShips x = on(2, 2, false, 3, 0);
        due("no call", x.lose(0), UNKNOWN);
        x.call(0);
        due("it is", x.lose(0), NOT);
        x.answer(0, 0);
        due("lost", x.lose(0), 1);
        due("it is", x.lose(0), NOT);
        due("both are left", x.left(), 2);
        due("no call", x.lose(1), UNKNOWN);
        due("no call", x.lose(-1), UNKNOWN);
        due("was lost", x.answer(0, 1), NONE);
    }

    private static void p14() {
        SquaredShips x = on(2, 2, false, 3, 0);
        due("none", x.back(), NOT);
        told(x, 0, 1);
        told(x, 1, 0);
        due("left", x.left(), 0);
        due("one", x.back(), 1);
        due("left", x.left(), 1);
        due("its answer goes, too", x.many(3), 1);
        x.call(1);
        due("a new call is lost", x.lose(1), NOT);
        due("one", x.back(), 1);
        due("none", x.back(), 0);
        due("none", x.back(), NOT);
        due("left", x.left(), 2);
    }

    private static void p15() {
        // Layings of one domino lying on 2 by 2: cells 0, 1 or 2, 3.
        SquaredShips x = on(2, 2, false, 3, 0);
        x.call(0);
        x.call(0);
        x.call(2);
        x.call(1);
        x.call(1);
        x.salvo(0, 1);
        x.salvo(0, 2);
        int[] truths = {1, 1, 0, 2, 1, 2, 1};
        for (int c = 0; c < 7; c++) due("by laying 0", x.truth(0, c), truths[c]);
        int[] others = {0, 0, 1, 0, 0, 0, 1};
        for (int c = 0; c < 7; c++) due("by laying 1", x.truth(1, c), others[c]);
        x.set(1, 0);
        due("sunk is not told", x.truth(0, 3), 1);
        due("salvo still", x.truth(0, 5), 2);
        due("no call", x.truth(0, 7), UNKNOWN);
        due("no laying", x.truth(2, 0), UNKNOWN);
        due("no laying", x.truth(-1, 0), UNKNOWN);
        x = on(3, 2, false, 1, 0);
        x.call(0);
        due("one cell is sunk at once", x.truth(0, 0), 2);
        x = on(3, 2, false, 7, 0);
        x.salvo(0, 2);
        x.call(1);
        due("a salvo hits, too", x.truth(0, 1), 2);
        x.back();
        x.back();
        x.call(0);
        x.salvo(1, 2);
        x.call(2);
        due("a salvo tells no sinking", x.truth(0, 1), 2);
        due("sunk ahead of it", x.truth(0, 2), 1);
        x.answer(0, 0);
        due("whatever was told", x.truth(0, 0), 1);
        x = tooMany();
        due("no call ahead of spent", x.truth(0, 0), UNKNOWN);
        x.call(0);
        due("spent", x.truth(0, 0), SPENT);
        due("spent ahead of no laying", x.truth(-5, 0), SPENT);
        x = twoUpright();
        x.call(0);
        x.call(1);
        x.call(2);
        due("the other ship's cells do not matter", x.truth(0, 2), 2);
        due("the other ship", x.truth(0, 1), 1);
    }

    private static void p16() {
        // Two single cells, 0 and 1, on 3 by 2 that wraps; drift to the right.
        SquaredShips x = on(3, 2, true, 1, 0, 1, 0);
        x.drift(1, 0);
        x.call(5);
        x.call(5);
        x.salvo(0, 5);
        x.salvo(4, 5);
        x.call(2);
        due("at first", x.lies(0, 0, 0), 1);
        due("at first", x.lies(0, 1, 0), 2);
        due("missed", x.lies(0, 0, 1), 2);
        due("missed", x.lies(0, 1, 1), 4);
        due("over the rim", x.lies(0, 1, 2), 1);
        due("the second is hit", x.lies(0, 1, 3), 1);
        due("none moves then", x.lies(0, 0, 3), 4);
        due("the first would move onto the second", x.lies(0, 0, 4), 4);
        due("hit at last", x.lies(0, 0, 5), 4);
        due("n below", x.lies(0, 0, -1), OUTSIDE);
        due("n beyond", x.lies(0, 0, 6), OUTSIDE);
        due("no ship", x.lies(0, 2, 0), UNKNOWN);
        due("no ship ahead of outside", x.lies(0, -1, 9), UNKNOWN);
        due("no laying", x.lies(30, 0, 0), UNKNOWN);
        due("no laying", x.lies(-1, 0, 0), UNKNOWN);
        x = on(3, 3, true, 3, 0, 1, 0);
        x.drift(1, -1);
        x.call(0);
        x.call(7);
        due("0 and 1, 2: the first is hit", x.lies(0, 0, 1), 3);
        due("0 and 1, 2: the second does not move", x.lies(0, 1, 1), 4);
        due("then it moves: over both rims", x.lies(0, 1, 2), 1L << 6);
        due("a hit ship never moves", x.lies(0, 0, 2), 3);
        x = on(2, 2, true, 1, 0);
        x.drift(1, 1);
        x.call(0);
        x.call(1);
        x.call(0);
        due("called again, it is hit again: no drift", x.lies(0, 0, 3), 1);
        x = tooMany();
        due("spent", x.lies(0, 0, 0), SPENT);
        due("outside ahead of spent", x.lies(0, 0, 1), OUTSIDE);
        due("spent ahead of no laying", x.lies(-1, 0, 0), SPENT);
    }

    private static void p17() {
        SquaredShips x = on(3, 3, false, 1, 0);
        due("all", x.left(), 9);
        told(x, 4, 0);
        due("not in the middle", x.left(), 8);
        told(x, 0, 0);
        due("nor in the corner", x.left(), 7);
        told(x, 8, 2);
        due("there", x.left(), 1);
        x.answer(2, 1);
        due("a single cell is never just hit", x.left(), 0);
        x.set(2, 1);
        due("one lie: none of 4 and 0, or 8", x.left(), 7);
        x.set(2, 2);
        due("two lies", x.left(), 9);
        x.lose(0);
        x.set(2, 0);
        x.set(1, 0);
        due("sunk is not told", x.left(), 1);
        due("spent", tooMany().left(), SPENT);
    }

    private static void p18() {
        SquaredShips x = on(3, 3, false, 1, 0);
        told(x, 0, 0);
        told(x, 2, 0);
        int[] left = {1, 3, 4, 5, 6, 7, 8, NONE, NONE};
        for (int i = 0; i < left.length; i++) due("which", x.which(i), left[i]);
        due("far", x.which(HIGH), NONE);
        due("below", x.which(-1), OUTSIDE);
        due("far below", x.which(LOW), OUTSIDE);
        due("spent", tooMany().which(0), SPENT);
        due("outside ahead", tooMany().which(-1), OUTSIDE);
    }

    private static void p19() {
        SquaredShips x = on(3, 2, true, 3, 0);
        for (int c = 0; c < 6; c++) due("two of the dominoes", x.there(c), 2);
        x.drift(1, 0);
        told(x, 0, 0);
        due("only 1, 2 of row 0 was left, and moved to 2, 0", x.there(0), 3 - 2 + 0);
        due("not any more", x.there(1), 0);
        due("moved there", x.there(2), 1);
        due("below all moved round", x.there(3), 2);
        due("no cell", x.there(6), UNKNOWN);
        due("no cell", x.there(-1), UNKNOWN);
        due("spent", tooMany().there(0), SPENT);
        due("unknown ahead", tooMany().there(25), UNKNOWN);
    }

    private static void p20() {
        SquaredShips x = on(3, 2, false, 3, 0);
        due("none is sure", x.sure(0), 0);
        due("nor empty", x.sure(1), 0);
        told(x, 0, 0);
        told(x, 1, 1);
        due("there", x.sure(0), 6);
        due("not there", x.sure(1), 57);
        x.answer(0, 1);
        due("by 0, 1 it would have been sunk", x.left(), 0);
        due("all", x.sure(0), 63);
        due("all", x.sure(1), 63);
        due("way", x.sure(2), OUTSIDE);
        due("way", x.sure(-1), OUTSIDE);
        due("spent", tooMany().sure(0), SPENT);
        due("outside ahead", tooMany().sure(2), OUTSIDE);
        x = on(6, 6, false, 1, 0);
        told(x, 35, 2);
        due("the last cell", x.sure(0), 1L << 35);
        due("the others", x.sure(1), (1L << 35) - 1);
    }

    private static void p21() {
        SquaredShips x = on(3, 3, false, 3, 0);
        due("miss", x.part(1, 0), 4);
        due("hit", x.part(1, 1), 2);
        due("sunk", x.part(1, 2), 0);
        told(x, 0, 1);
        due("sunk", x.part(1, 2), 1);
        due("hit", x.part(1, 1), 0);
        due("hit again", x.part(0, 1), 1);
        due("not sunk", x.part(0, 2), 0);
        x.set(1, 0);
        due("sunk is not told", x.part(1, 2), 0);
        due("hit then", x.part(1, 1), 1);
        due("no cell", x.part(9, 0), UNKNOWN);
        due("unknown ahead", x.part(-1, 3), UNKNOWN);
        due("answer", x.part(0, 3), OUTSIDE);
        due("answer", x.part(0, -1), OUTSIDE);
        x.answer(0, 2);
        due("none is left", x.part(0, 0), 0);
        due("spent", tooMany().part(0, 0), SPENT);
        due("outside ahead", tooMany().part(0, 3), OUTSIDE);
    }

    private static void p22() {
        SquaredShips x = on(3, 3, false, 3, 0);
        due("least of the middle column", x.best(0), 1);
        due("its greatest part", x.best(1), 4);
        told(x, 1, 1);
        due("0, 1 or 1, 2", x.best(0), 0);
        due("one each", x.best(1), 1);
        told(x, 0, 1);
        due("none is left: 0 would have been sunk", x.best(0), NONE);
        due("none is left", x.best(1), NONE);
        due("what", x.best(2), OUTSIDE);
        due("what", x.best(-1), OUTSIDE);
        due("spent", tooMany().best(0), SPENT);
        due("outside ahead", tooMany().best(2), OUTSIDE);
        x = twoUpright();
        due("no cell parts them", x.best(0), 0);
        due("both", x.best(1), 2);
        x = on(2, 2, true, 1, 0);
        x.drift(1, 0);
        told(x, 0, 0);
        due("behind the calls: it moved from 1 to 0", x.best(0), 0);
        due("of three", x.best(1), 2);
    }

    private static void p23() {
        SquaredShips x = on(3, 3, false, 3, 0);
        due("lesser", x.bestSalvo(0), 0);
        due("greater", x.bestSalvo(1), 4);
        due("1, 3 of 2; 0 of 3: three parts of two", x.bestSalvo(2), 3);
        due("what", x.bestSalvo(3), OUTSIDE);
        due("what", x.bestSalvo(-1), OUTSIDE);
        told(x, 1, 1);
        due("0 with any: 1 lies there, or not", x.bestSalvo(0), 0);
        due("1 is in both", x.bestSalvo(1), 1);
        due("one each", x.bestSalvo(2), 1);
        x.answer(0, 2);
        for (int what = 0; what < 3; what++) due("none is left", x.bestSalvo(what), NONE);
        due("spent", tooMany().bestSalvo(0), SPENT);
        due("outside ahead", tooMany().bestSalvo(3), OUTSIDE);
        due("the one empty laying", new SquaredShips().bestSalvo(1), 1);
    }

    private static void p24() {
        SquaredShips x = on(2, 2, false, 1, 0);
        int[] needs = {1, 2, 3, 3};
        for (int k = 0; k < 4; k++) due("need", x.need(k), needs[k]);
        x.call(0);
        x.answer(0, 2);
        x.set(2, 2);
        for (int k = 0; k < 4; k++) due("it knows of no calls", x.need(k), needs[k]);
        due("no laying", x.need(4), UNKNOWN);
        due("no laying", x.need(-1), UNKNOWN);
        due("crowded", crowded().need(0), SPENT);
        due("400 are no crowd", just(400).need(400), UNKNOWN);
        due("400 are no crowd", just(400).need(399) > 4 ? 1 : 0, 1);
        due("404 are", just(404).need(404), SPENT);
        due("crowded ahead", crowded().need(-1), SPENT);
        due("too many", tooMany().need(-1), SPENT);
        due("no call parts them", twoUpright().need(1), 0);
        x = on(5, 4, false, 1, 0, 1, 0);
        due("380 layings", x.layings(), 380);
        due("are no crowd", x.need(0) > 0 ? 1 : 0, 1);
        x = on(5, 4, true, 1, 0, 1, 0);
        x.ship(15, 0);
        due("of 20 by 20 by 20", x.need(0), SPENT);
    }

    private static void p25() {
        SquaredShips x = on(2, 2, false, 1, 0);
        for (int i = 0; i < 3; i++) due("calls for the last", x.calls(3, i), i);
        due("not so many", x.calls(3, 3), NONE);
        due("not so many", x.calls(0, 1), NONE);
        due("not so many", x.calls(0, HIGH), NONE);
        due("the first", x.calls(0, 0), 0);
        due("below", x.calls(0, -1), OUTSIDE);
        due("outside ahead of unknown", x.calls(9, -1), OUTSIDE);
        due("no laying", x.calls(4, 0), UNKNOWN);
        due("no laying", x.calls(-1, 0), UNKNOWN);
        due("outside ahead of spent", tooMany().calls(0, -1), OUTSIDE);
        due("spent ahead of unknown", tooMany().calls(-1, 0), SPENT);
        due("a crowd is not refused here", crowded().calls(0, 0), 0);
        due("a crowd is not refused here", crowded().calls(-1, 0), UNKNOWN);
        x = on(3, 2, false, 3, 0);
        due("1 lies in the most", x.calls(0, 0), 1);
        due("0 parts the rest", x.calls(0, 1), 0);
        due("likewise", x.calls(1, 1), 0);
        due("found", x.calls(1, 2), NONE);
        x.set(1, 0);
        due("without sunk just the same", x.calls(1, 1), 0);
        x = on(2, 2, false, 1, 0, 3, 0);
        due("with sunk", x.calls(0, 0), 0);
        due("it was sunk at 0", x.calls(0, 1), NONE);
        x.set(1, 0);
        due("sunk is not told: 0 parts one from three", x.calls(1, 0), 0);
        due("1 parts these", x.calls(0, 1), 1);
        due("the one is found", x.calls(1, 1), NONE);
    }

    private static void p26() {
        SquaredShips x = on(2, 2, false, 1, 0);
        due("of 2 and 3 the first", x.hardest(0), 2);
        due("its need", x.hardest(1), 3);
        due("1 and 2 and 3 and 3", x.hardest(2), 9);
        due("what", x.hardest(3), OUTSIDE);
        due("what", x.hardest(-1), OUTSIDE);
        due("crowded", crowded().hardest(0), SPENT);
        SquaredShips most = just(400);
        int sum = 0;
        for (int k = 0; k < 400; k++) sum += most.need(k);
        due("400 are no crowd", most.hardest(2), sum);
        due("the need of the hardest", most.hardest(1), most.need(most.hardest(0)));
        due("404 are", just(404).hardest(0), SPENT);
        due("too many", tooMany().hardest(2), SPENT);
        due("outside ahead", tooMany().hardest(3), OUTSIDE);
        x = on(2, 2, false, 5, 0);
        for (int what = 0; what < 3; what++) due("no layings", x.hardest(what), NONE);
        due("the empty one", new SquaredShips().hardest(2), 0);
        x = twoUpright();
        due("no call parts them", x.hardest(0), 0);
        due("no call parts them", x.hardest(1), 0);
    }

    private static void p27() {
        SquaredShips x = on(3, 2, false, 3, 0);
        due("no calls", x.stray(), NONE);
        told(x, 0, 0);
        due("fine", x.stray(), NONE);
        x.call(1);
        told(x, 3, 0);
        due("fine: 1, 2 or 4, 5", x.stray(), NONE);
        told(x, 2, 0);
        due("4, 5", x.stray(), NONE);
        told(x, 5, 0);
        due("none", x.stray(), 4);
        x.set(2, 2);
        due("no lies allowed", x.stray(), 4);
        x.answer(1, 1);
        due("0 not, 1 hit, 2 not", x.stray(), 3);
        due("spent", tooMany().stray(), SPENT);
        x = on(2, 2, false, 5, 0);
        x.call(0);
        due("without layings", x.stray(), NONE);
        told(x, 0, 0);
        due("the first told", x.stray(), 1);
    }

    private static void p28() {
        SquaredShips x = on(3, 2, false, 3, 0);
        due("none", x.blame(), 0);
        told(x, 0, 1);
        told(x, 4, 1);
        due("one", x.blame(), 1);
        told(x, 5, 2);
        due("still one", x.blame(), 1);
        told(x, 1, 2);
        due("two", x.blame(), 2);
        x.set(2, 2);
        due("whatever lies are allowed", x.blame(), 2);
        due("spent", tooMany().blame(), SPENT);
        x = on(2, 2, false, 5, 0);
        due("no layings", x.blame(), NONE);
    }

    private static void p29() {
        SquaredShips x = on(3, 2, false, 3, 0);
        due("none", x.blamed(), 0);
        told(x, 0, 1);
        told(x, 4, 1);
        due("laying 0 comes first: call 1", x.blamed(), 2);
        told(x, 5, 2);
        due("4, 5 has but call 0 wrong", x.blamed(), 1);
        told(x, 1, 2);
        due("laying 0 again: calls 1 and 2", x.blamed(), 6);
        due("spent", tooMany().blamed(), SPENT);
        x = on(2, 2, false, 5, 0);
        told(x, 0, 1);
        due("no layings", x.blamed(), 0);
        x = on(2, 2, false, 51, 0);
        for (int n = 0; n < 30; n++) told(x, 0, 0);
        due("thirty calls", x.blamed(), (1 << 30) - 1);
        due("thirty calls", x.blame(), 30);
    }

    private static void p30() {
        SquaredShips x = on(3, 2, false, 3, 0, 1, 0);
        due("all is true", x.switched(0), NOT);
        told(x, 0, 1);
        due("all is true", x.switched(1), NOT);
        told(x, 3, 1);
        due("3 was never sunk", x.switched(0), 1);
        due("ship 0 went there", x.switched(1), 0);
        x.answer(1, 2);
        due("a single cell at 3: true", x.switched(0), NOT);
        told(x, 3, 0);
        due("sunk at 3, then not there", x.switched(0), 2);
        due("ship 1 went", x.switched(1), 1);
        due("what", x.switched(2), OUTSIDE);
        due("what", x.switched(-1), OUTSIDE);
        due("crowded", crowded().switched(0), SPENT);
        due("400 are no crowd", just(400).switched(0), NOT);
        due("404 are, ahead of not", just(404).switched(0), SPENT);
        due("too many, ahead of not", tooMany().switched(0), SPENT);
        due("outside ahead", tooMany().switched(2), OUTSIDE);
        x = on(2, 2, false, 3, 0);
        told(x, 0, 1);
        x.call(1);
        told(x, 0, 0);
        due("at the first call that may be, though its answer is lost", x.switched(0), 1);
        told(x, 0, 1);
        due("there and back", x.switched(0), NONE);
        due("there and back", x.switched(1), NONE);
        x = on(2, 2, false, 5, 0);
        due("no layings", x.switched(0), NONE);
        x = on(2, 2, false, 1, 0, 1, 0);
        told(x, 0, 2);
        told(x, 0, 0);
        due("the least ship", x.switched(1), 0);
        x = on(2, 2, false, 1, 0, 1, 0, 1, 0);
        told(x, 2, 2);
        told(x, 3, 0);
        told(x, 2, 0);
        told(x, 3, 1);
        told(x, 0, 2);
        told(x, 1, 2);
        due("a third ship from 2 to 3", x.switched(0), 2);
        due("any of the three may have gone", x.switched(1), 0);
        x = on(3, 2, false, 17, 0, 17, 0, 1, 0);
        told(x, 0, 1);
        told(x, 1, 1);
        told(x, 2, 2);
        told(x, 2, 0);
        told(x, 5, 2);
        due("the single cell went", x.switched(0), 3);
        due("the single cell went", x.switched(1), 2);
    }

    private static void p31() {
        SquaredShips x = on(3, 2, false, 3, 0);
        due("rim", x.count(0, 6), NONE);
        due("which was told", x.count(0, 0), 6);
        due("told no more", x.count(0, 7), 0);
        due("it was not told", x.count(0, 7), NONE);
        due("the last column", x.count(4, 1), NONE);
        due("which was told", x.count(4, 2), 1);
        due("no rim", x.count(5, 0), UNKNOWN);
        due("no rim", x.count(-1, 0), UNKNOWN);
        due("unknown ahead", x.count(5, 8), UNKNOWN);
        due("v", x.count(0, 8), OUTSIDE);
        due("v", x.count(0, -1), OUTSIDE);
        due("nothing changed", x.many(4), 1);
        x.grid(3, 2, false);
        due("a new grid", x.count(4, 0), NONE);
        x.grid(6, 6, false);
        due("rim 11", x.count(11, 6), NONE);
        due("rim 12", x.count(12, 6), UNKNOWN);
    }

    private static void p32() {
        SquaredShips x = on(3, 2, false, 3, 0, 1, 0);
        // Laying 0: 0, 1 and 2. Laying 1: 0, 1 and 3.
        int[] first = {3, 0, 1, 1, 1};
        int[] second = {2, 1, 2, 1, 0};
        for (int r = 0; r < 5; r++) {
            due("rim", x.rim(0, r), first[r]);
            due("rim", x.rim(1, r), second[r]);
        }
        due("no rim", x.rim(0, 5), UNKNOWN);
        due("no rim", x.rim(0, -1), UNKNOWN);
        due("no laying", x.rim(16, 0), UNKNOWN);
        due("no laying", x.rim(-1, 0), UNKNOWN);
        x = tooMany();
        due("spent ahead of no laying", x.rim(-1, 0), SPENT);
        due("no rim ahead of spent", x.rim(0, 10), UNKNOWN);
        x = on(3, 2, true, 3, 0);
        x.drift(1, 0);
        x.call(5);
        due("of no calls", x.rim(0, 2), 1);
        due("of no calls", x.rim(0, 4), 0);
    }

    private static void p33() {
        SquaredShips x = on(3, 2, true, 3, 0);
        due("no counts", x.fitting(), 6);
        x.count(0, 2);
        due("row 0", x.fitting(), 3);
        x.count(2, 1);
        due("column 0", x.fitting(), 2);
        x.drift(1, 0);
        told(x, 0, 0);
        due("of no calls", x.fitting(), 2);
        x.count(1, 1);
        due("row 1, too", x.fitting(), 0);
        x.count(1, 7);
        x.count(0, 7);
        due("column 0 alone", x.fitting(), 4);
        due("spent", tooMany().fitting(), SPENT);
    }

    private static void p34() {
        SquaredShips x = on(3, 2, false, 3, 0);
        // 0, 1 - 1, 2 - 3, 4 - 4, 5: the row, and column 0 or 2.
        int[] clues = {5, 5, 5, 5};
        for (int k = 0; k < 4; k++) due("the row 0 and column 0", x.clues(k), clues[k]);
        due("no laying", x.clues(4), UNKNOWN);
        due("no laying", x.clues(-1), UNKNOWN);
        due("crowded ahead", crowded().clues(-1), SPENT);
        due("400 are no crowd", just(400).clues(400), UNKNOWN);
        due("404 are", just(404).clues(0), SPENT);
        due("too many", tooMany().clues(0), SPENT);
        due("in the same cells", twoUpright().clues(0), 0);
        x = on(2, 2, false, 18, 1);
        due("both diagonals have the same counts", x.clues(0), NONE);
        x = on(3, 3, false, 1, 0);
        due("the middle one: row 1, column 1", x.clues(4), 2 | 16);
        x.count(0, 0);
        told(x, 0, 2);
        due("whatever is told", x.clues(4), 2 | 16);
        due("nothing but the empty one", new SquaredShips().clues(0), 0);
    }

    private static void p35() {
        SquaredShips x = on(3, 4, false, 3, 0, 1, 0);
        x.call(0);
        x.call(1);
        x.salvo(1, 2);
        x.answer(0, 0);
        x.answer(2, 0);
        x.count(0, 0);
        x.count(6, 3);
        x.count(5, 3);
        x.count(5, 7);
        int[] want = {12, 2, 3, 2, 2};
        for (int what = 0; what < 5; what++) due("many", x.many(what), want[what]);
        int[] bad = {-1, 5, LOW, HIGH};
        for (int b : bad) due("what", x.many(b), OUTSIDE);
    }

    private static void constants() {
        promise = 0;
        due("NONE", SquaredShips.NONE, NONE);
        due("UNKNOWN", SquaredShips.UNKNOWN, UNKNOWN);
        due("OUTSIDE", SquaredShips.OUTSIDE, OUTSIDE);
        due("NOT", SquaredShips.NOT, NOT);
        due("FULL", SquaredShips.FULL, FULL);
        due("SPENT", SquaredShips.SPENT, SPENT);
    }

    private static void first() {
        promise = 1; p1();
        promise = 2; p2();
        promise = 3; p3();
        promise = 4; p4();
        promise = 5; p5();
        promise = 6; p6();
        promise = 7; p7();
        promise = 8; p8();
        promise = 9; p9();
        promise = 10; p10();
        promise = 11; p11();
        promise = 12; p12();
        promise = 13; p13();
        promise = 14; p14();
        promise = 15; p15();
        promise = 16; p16();
        promise = 17; p17();
        promise = 18; p18();
    }

    private static void second() {
        promise = 19; p19();
        promise = 20; p20();
        promise = 21; p21();
        promise = 22; p22();
        promise = 23; p23();
        promise = 24; p24();
        promise = 25; p25();
        promise = 26; p26();
        promise = 27; p27();
        promise = 28; p28();
        promise = 29; p29();
        promise = 30; p30();
        promise = 31; p31();
        promise = 32; p32();
        promise = 33; p33();
        promise = 34; p34();
        promise = 35; p35();
    }

    public static void main(String[] args) {
        constants();
        first();
        second();
        System.out.println(wrong == 0 ? "all promises hold" : wrong + " answers are not as due");
        if (wrong != 0) System.exit(1);
    }
}
