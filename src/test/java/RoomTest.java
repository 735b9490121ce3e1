import java.lang.management.ManagementFactory;

/** The dearest runs of calls keep to the room that all calls of a run have together, and end soon. */
public final class RoomTest {
    /** Far below 7.3 million elements of eight bytes each. */
    private static final long MOST_BYTES = 4_000_000;

    private static int wrong = 0;

    private static long made() {
        return ((com.sun.management.ThreadMXBean) ManagementFactory.getThreadMXBean())
            .getThreadAllocatedBytes(Thread.currentThread().getId());
    }

    private static long ask(SquaredShips x, int n) {
        int k = n * 37 % 10000;
        long sum = 0;
        switch (n % 24) {
            case 0: x.call(n % 25); break;
            case 1: x.answer(x.many(2) - 1, n % 2); break;
            case 2: x.salvo(n % 25, (n + 1) % 25); break;
            case 3: sum = x.left(); break;
            case 4: sum = x.bestSalvo(n % 3); break;
            case 5: sum = x.best(0); break;
            case 6: sum = x.which(k); break;
            case 7: sum = x.sure(0) + x.there(3) + x.part(3, 1); break;
            case 8: sum = x.calls(k, 3); break;
            case 9: sum = x.hardest(2); break;
            case 10: sum = x.need(k % 400); break;
            case 11: sum = x.stray(); break;
            case 12: sum = x.blame(); break;
            case 13: sum = x.blamed(); break;
            case 14: sum = x.switched(0); break;
            case 15: x.set(2, n % 3); break;
            case 16: sum = x.fitting(); break;
            case 17: sum = x.clues(k % 400); break;
            case 18: x.drift(n % 3 - 1, n % 5 % 3 - 1); break;
            case 19: sum = x.truth(k, 3); break;
            case 20: sum = x.lies(k, 1, 3); break;
            case 21: x.set(1, n % 2); break;
            case 22: sum = x.rim(k, 2); break;
            default: x.count(n % 10, n % 8); break;
        }
        return sum;
    }

    private static void run(String name, int w, int h, boolean wraps, int... shapes) {
        long before = made();
        SquaredShips x = new SquaredShips();
        long sum = x.grid(w, h, wraps);
        for (int shape : shapes) sum += x.ship(shape, 0);
        for (int n = 0; n < 505; n++) sum += ask(x, n);
        due(name, made() - before);
        if (sum == 0) System.out.println("nothing was answered");
    }

    /** Ever more layings, and a grid anew each time. */
    private static void growing() {
        long before = made();
        SquaredShips x = new SquaredShips();
        for (int n = 0; n < 100; n++) {
            x.grid(2 + n / 25, 2 + n / 20, n % 2 == 0);
            x.ship(1 + n % 3 * 2, 2);
            x.ship(1 + n % 5 * 2, 2);
            x.left();
            x.calls(0, 0);
        }
        due("growing", made() - before);
    }

    private static void manyObjects() {
        long before = made();
        for (int n = 0; n < 100; n++) {
            SquaredShips x = new SquaredShips();
            x.ship(3, 1);
            x.left();
            x.hardest(0);
            x.clues(0);
        }
        due("100 small objects", made() - before);
    }

    private static void due(String name, long bytes) {
        System.out.println(name + ": " + bytes + " bytes were made");
        if (bytes > MOST_BYTES) {
            wrong++;
            System.out.println(name + " makes too much");
        }
    }

    public static void main(String[] args) {
        made();
        run("warm", 5, 5, false, 1);
        run("8000 combinations", 5, 4, true, 1, 17, 8);
        run("10000 combinations", 5, 5, false, 1, 1, 51);
        run("six by six", 6, 6, true, 31, 31);
        run("a crowd of 380", 5, 4, false, 1, 1);
        run("nothing", 6, 6, true);
        growing();
        manyObjects();
        if (wrong != 0) System.exit(1);
    }
}
