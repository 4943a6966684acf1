import java.util.ArrayList;
import java.util.List;
import java.util.Random;

/** Runs of calls on the class and on PlainGround, which must answer alike (promises 2 to 13, 16 and 17). */
public final class PlainGroundTest {
    private static final Check CHECK = new Check("PlainGroundTest");
    private static final int RUNS = 600;
    // With the questions after each of them, and those at the end, an object stays below its 512 calls.
    private static final int CALLS = 60;

    private final Random random;
    private final SettleLayers x = new SettleLayers();
    private final PlainGround plain = new PlainGround();
    private final List<int[]> readings = new ArrayList<>();
    private final int run;

    private PlainGroundTest(int run) {
        this.run = run;
        random = new Random(run);
    }

    public static void main(String[] args) {
        for (int run = 0; run < RUNS; run++) {
            new PlainGroundTest(run).play();
        }
        CHECK.finish();
    }

    private void play() {
        int layers = 1 + random.nextInt(3);
        for (int i = 0; i < layers; i++) {
            addLayer();
        }
        for (int i = 0; i < CALLS; i++) {
            call();
            compareSome();
        }
        compareAll();
    }

    private int upTo(int most) {
        return random.nextInt(most + 1);
    }

    private void addLayer() {
        int cells = 1 + upTo(9);
        int leak = random.nextBoolean() ? upTo(300) : upTo(20);
        int hard = upTo(random.nextBoolean() ? 1000 : 20);
        int soft = hard + upTo(1000 - hard);
        int past = upTo(random.nextBoolean() ? 1_000_000 : 5000);
        CHECK.same(name("layer"), x.layer(cells, leak, hard, soft, past), plain.layers);
        plain.layer(cells, leak, hard, soft, past);
    }

    private void call() {
        switch (upTo(9)) {
            case 0 -> drains();
            case 1, 2 -> load();
            case 3 -> read();
            case 4 -> until();
            case 5 -> surcharge();
            default -> passDays();
        }
    }

    private void drains() {
        plain.above = random.nextInt(4) > 0;
        plain.below = random.nextBoolean();
        plain.drain = random.nextBoolean() ? 0 : upTo(200);
        CHECK.same(name("drains"), x.drains(plain.above, plain.below, plain.drain), true);
    }

    private void load() {
        int day = plain.day + upTo(10);
        int pascals = 1 + upTo(random.nextBoolean() ? 199_999 : 50);
        boolean good = day <= 399 && plain.loads() < 12;
        CHECK.same(name("load"), x.load(day, pascals), good ? plain.loads() + 1 : -1);
        if (good) {
            plain.load(day, pascals);
        }
    }

    private void read() {
        int last = readings.isEmpty() ? -1 : readings.get(readings.size() - 1)[0];
        int day = last + 1 + upTo(8);
        int v = (int) (plain.units(-1) / 1000) + upTo(10);
        boolean good = day <= 400 && readings.size() < 20;
        if (good) {
            readings.add(new int[] {day, v});
        }
        CHECK.same(name("read"), x.read(day, v), good ? readings.size() : -1);
    }

    private void until() {
        int share = random.nextBoolean() ? upTo(1000) : 1000 - upTo(20);
        CHECK.same(name("until"), x.until(share), plain.until(share));
    }

    private void surcharge() {
        int step = 1 + upTo(random.nextBoolean() ? 99_999 : 30);
        int days = 1 + upTo(10);
        CHECK.same(name("surcharge"), x.surcharge(step, days), plain.surcharge(step, days));
    }

    private void passDays() {
        int days = 1 + upTo(random.nextInt(5) == 0 ? 59 : 2);
        boolean good = plain.day + days <= 400;
        for (int i = 0; i < days && good; i++) {
            plain.passDay();
        }
        CHECK.same(name("run"), x.run(days), good ? plain.day : -1);
    }

    private void compareSome() {
        compareSunk(upTo(plain.layers) - 1);
        compareTold(upTo(plain.cells.size() - 1), upTo(2));
        CHECK.same(name("out"), x.out(), plain.out);
        CHECK.same(name("share"), x.share(), plain.share());
        compareOff(upTo(8));
    }

    private void compareAll() {
        for (int layer = -1; layer < plain.layers; layer++) {
            compareSunk(layer);
        }
        for (int cell = 0; cell < plain.cells.size(); cell++) {
            for (int what = 0; what <= 2; what++) {
                compareTold(cell, what);
            }
        }
        CHECK.same(name("balance"), x.balance(), true);
        CHECK.same(name("end"), x.end(), plain.end() / 1000);
        CHECK.same(name("come"), x.count(5), plain.come);
        compareOff(0);
    }

    private void compareSunk(int layer) {
        CHECK.same(name("sunk"), x.sunk(layer), plain.units(layer) / 1000);
    }

    private void compareTold(int cell, int what) {
        CHECK.same(name("told"), x.told(cell, what), plain.told(cell, what));
    }

    private void compareOff(long limit) {
        int off = 0;
        for (int[] reading : readings) {
            off += plain.isOff(reading[0], reading[1], limit) ? 1 : 0;
        }
        CHECK.same(name("off"), x.off(limit), off);
    }

    private String name(String call) {
        return "run " + run + ", day " + plain.day + ": " + call;
    }
}
