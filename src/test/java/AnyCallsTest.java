import java.util.Random;

/** No call may throw, whatever its arguments and whatever came before: 512 calls of any kind on each object. */
public final class AnyCallsTest {
    private static final Check CHECK = new Check("AnyCallsTest");
    private static final int[] EDGES = {
        Integer.MIN_VALUE, -2, -1, 0, 1, 2, 3, 5, 6, 9, 10, 11, 12, 20, 29, 30, 31, 60, 61, 100, 101, 200, 201,
        300, 301, 399, 400, 401, 1000, 1001, 100_000, 100_001, 200_000, 200_001, 1_000_000, Integer.MAX_VALUE,
    };
    private static final long[] LONG_EDGES = {
        Long.MIN_VALUE, -1, 0, 1, 1000, 100_000_000L, 100_000_001L, 1_000_000_000_000L, Long.MAX_VALUE,
    };

    public static void main(String[] args) {
        for (int seed = 0; seed < 200; seed++) {
            Random random = new Random(seed);
            SettleLayers x = new SettleLayers();
            for (int i = 0; i < 511; i++) {
                call(x, random);
            }
            CHECK.same("balance after run " + seed, x.balance(), true);
        }
        CHECK.finish();
    }

    private static int any(Random random) {
        return random.nextBoolean() ? EDGES[random.nextInt(EDGES.length)] : random.nextInt(12);
    }

    private static long anyLong(Random random) {
        return random.nextBoolean() ? LONG_EDGES[random.nextInt(LONG_EDGES.length)] : random.nextInt(2000);
    }

    private static void call(SettleLayers x, Random random) {
        int a = any(random);
        int b = any(random);
        switch (random.nextInt(16)) {
            case 0 -> x.layer(a, b, any(random), any(random), any(random));
            case 1 -> x.drains(random.nextBoolean(), random.nextBoolean(), a);
            case 2 -> x.load(a, b);
            case 3 -> x.run(a);
            case 4 -> x.sunk(a);
            case 5 -> x.told(a, b);
            case 6 -> x.out();
            case 7 -> x.balance();
            case 8 -> x.end();
            case 9 -> inThousandths(x.share());
            case 10 -> x.until(a);
            case 11 -> x.surcharge(a, b);
            case 12 -> x.read(a, anyLong(random));
            case 13 -> x.foretold(a);
            case 14 -> x.off(anyLong(random));
            default -> x.count(a);
        }
    }

    private static void inThousandths(int share) {
        CHECK.holds("share " + share + " is 0 .. 1,000", share >= 0 && share <= 1000);
    }
}
