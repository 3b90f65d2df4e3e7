import java.lang.management.ManagementFactory;
import java.util.Random;

/** Any numbers in any state: no call throws, and what a run makes stays small. */
public final class WildTest {
    private static final int RUNS = 400;
    private static final int CALLS = 512;
    /** The dearest run with its object may make this many bytes, far below the room of a run. */
    private static final long MOST_BYTES = 1000000;

    private static final int[] EDGES = {Integer.MIN_VALUE, Integer.MIN_VALUE + 1, -1000000, -13, -7, -6, -5, -4, -3, -2, -1,
        0, 1, 2, 3, 4, 5, 6, 7, 8, 9, 10, 11, 12, 13, 15, 16, 23, 24, 31, 32, 33, 39, 40, 41, 63, 64, 99, 100, 101, 399, 400,
        401, 4095, 4096, 65535, 1000000, 1000001, 0x74616b65, 0x62617273, Integer.MAX_VALUE - 1, Integer.MAX_VALUE};

    private final Random random;
    private final CornerTown town = new CornerTown();
    private final boolean tame;

    private WildTest(int seed) {
        random = new Random(seed);
        tame = seed % 2 == 0;
    }

    private int any() {
        return random.nextInt(5) == 0 ? random.nextInt() : EDGES[random.nextInt(EDGES.length)];
    }

    private int some(int high) {
        return tame && random.nextInt(12) != 0 ? random.nextInt(high) : any();
    }

    private int change() {
        switch (random.nextInt(20)) {
            case 0: case 1: case 2: return town.house(some(8), some(8), some(3), some(3), some(10));
            case 3: return town.rank(some(12), some(10));
            case 4: return town.stand(some(12), some(2));
            case 5: return town.terms(some(2), some(24));
            case 6: return town.door(some(12), some(12));
            case 7: return town.wall(some(12), some(12));
            case 8: return town.feed(0x62617273, 0x20696620, any(), any(), any());
            case 9: return town.end(some(40));
            case 10: return town.row();
            case 11: return town.law();
            case 12: return town.force(some(6));
            case 13: return town.wish(some(12), some(12), some(2));
            case 14: return town.clear();
            case 15: return town.log(some(12), some(12));
            case 16: return town.forget();
            case 17: return town.image(some(2));
            case 18: return town.back(some(2));
            default: return town.flood(some(1000), some(40));
        }
    }

    private int ask() {
        switch (random.nextInt(24)) {
            case 0: return town.of(some(12), some(6));
            case 1: return town.at(some(8), some(8));
            case 2: return town.ruin();
            case 3: return town.fault();
            case 4: return town.touch(some(12), some(12));
            case 5: return town.visit(some(12), some(12), some(3));
            case 6: return town.visits(some(12));
            case 7: return town.comes(some(12), some(12), some(4));
            case 8: return town.way(some(12), some(12), some(6));
            case 9: return town.parts(some(4));
            case 10: return town.holders(some(12), some(12));
            case 11: return town.cut(some(12), some(12), some(3));
            case 12: return town.doors(some(6));
            case 13: return town.news(some(4096), some(12));
            case 14: return town.wrong(some(12));
            case 15: return town.fits(some(12), some(4));
            case 16: return town.round(some(12), some(4096));
            case 17: return town.stop(some(12), some(4096), some(6));
            case 18: return town.meet(some(12), some(12), some(2));
            case 19: return town.site(some(3), some(3), some(64), some(64), some(3));
            case 20: return town.flooded(some(40), some(2));
            case 21: return town.count(some(16));
            default: return town.status();
        }
    }

    private int run() {
        int sum = 0;
        for (int i = 0; i < CALLS; i++) {
            sum += i < 40 || random.nextInt(3) == 0 ? change() : ask();
        }
        return sum;
    }

    /** Laws made and gone back from, and rounds of all houses: the calls that make the most. */
    private static int dearest() {
        CornerTown t = new CornerTown();
        for (int i = 0; i < 12; i++) {
            t.house(i % 6 + i / 6, i % 6, 1, 1, i % 10);
        }
        t.door(0, 6);
        t.image(0);
        int sum = 0;
        for (int i = 0; i < 30; i++) {
            for (int j = 0; j < 5; j++) {
                t.feed(0x62617273, 0x3b626172, 0x733b6261, 0x72733b62, 0x61727320);
                if (t.law() != j) {
                    throw new IllegalStateException("a law of the dearest run was refused");
                }
            }
            t.back(0);
            sum += t.round(0, (1 << (i % 11 + 2)) - 2) + t.doors(0) + t.fits(1, 1) + t.flood(i, 40);
        }
        return sum;
    }

    private static long bytes() {
        return ((com.sun.management.ThreadMXBean) ManagementFactory.getThreadMXBean())
            .getThreadAllocatedBytes(Thread.currentThread().getId());
    }

    public static void main(String[] args) {
        int sum = 0;
        for (int seed = 0; seed < RUNS; seed++) {
            sum += new WildTest(seed).run();
        }
        sum += dearest();
        long before = bytes();
        sum += dearest();
        long made = bytes() - before;
        System.out.println("no call threw (" + sum + "); the dearest run makes " + made + " bytes");
        if (made > MOST_BYTES) {
            System.exit(1);
        }
    }
}
