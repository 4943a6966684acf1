/**
 * Promise 13: "The least load of 0, step, 2 step, .. 20 step that, laid on now besides (with a day's loads), would
 * make it sink in so many days (1 .. 100) as much as the end without it, or more (what is there stays). BAD: step is
 * not 1 .. 100,000, no such days, no layers; 20 step is too little."
 */
public final class SurchargeTest {
    private static final Check CHECK = new Check("SurchargeTest");
    private static final int BAD = SettleLayers.BAD;
    // Leaks that so many pascals stay by, whatever the load, as less than a whole one would go.
    private static final int STAY_3 = 300;
    private static final int STAY_20 = 48;
    private static final int STAY_21 = 47;

    public static void main(String[] args) {
        theLeast();
        noLoadAtAll();
        oneStep();
        twentySteps();
        twentyStepsAreTooLittle();
        stepOneTo100000();
        daysOneTo100();
        noLayers();
        besidesTheDaysLoads();
        besidesTwelveLoads();
        inSoManyDays();
        loadsThatComeMeanwhile();
        asMuchInUnits();
        drainsAsTheyAre();
        beyondDay400();
        whatIsThereStays();
        CHECK.finish();
    }

    /** Every pascal sinks a whole micrometre, so that micrometres tell all. */
    private static SettleLayers soft() {
        SettleLayers x = Made.ground(2, 250, 1000, 1000, 0);
        x.layer(1, 90, 1000, 1000, 70);
        x.load(0, 3000);
        x.load(3, 1000);
        x.run(2);
        return x;
    }

    private static void theLeast() {
        int[][] asked = {{500, 1}, {500, 2}, {300, 3}, {100, 10}, {1000, 1}, {7, 4}};
        for (int[] a : asked) {
            int due = BAD;
            for (int i = 20; i >= 0; i--) {
                SettleLayers tried = soft();
                long end = tried.end();
                if (i > 0) {
                    tried.load(2, i * a[0]);
                }
                tried.run(a[1]);
                if (tried.sunk(-1) >= end) {
                    due = i * a[0];
                }
            }
            CHECK.same("surcharge(" + a[0] + ", " + a[1] + ")", soft().surcharge(a[0], a[1]), due);
        }
    }

    private static SettleLayers loaded(int leak) {
        SettleLayers x = Made.ground(1, leak, 10, 10, 0);
        x.load(0, 1000);
        return x;
    }

    private static void noLoadAtAll() {
        CHECK.same("no loads", Made.onDay(0).surcharge(1, 1), 0);
        CHECK.same("no loads on day 9", Made.onDay(9).surcharge(100_000, 100), 0);
        SettleLayers stiff = Made.ground(1, 0, 0, 0, 0);
        stiff.load(0, 1000);
        CHECK.same("ground that doesn't sink", stiff.surcharge(1, 1), 0);
        CHECK.holds("the end is never there without more", loaded(STAY_3).surcharge(1, 100) > 0);
    }

    private static void oneStep() {
        CHECK.same("a step of 3", loaded(STAY_3).surcharge(3, 100), 3);
        CHECK.same("a step of 4", loaded(STAY_3).surcharge(4, 100), 4);
        CHECK.same("a step of 100,000", loaded(STAY_3).surcharge(100_000, 100), 100_000);
    }

    private static void twentySteps() {
        CHECK.same("20 steps of 1", loaded(STAY_20).surcharge(1, 100), 20);
        CHECK.same("2 steps of 10", loaded(STAY_20).surcharge(10, 100), 20);
        CHECK.same("3 steps of 9", loaded(STAY_20).surcharge(9, 100), 27);
    }

    private static void twentyStepsAreTooLittle() {
        new Twins(CHECK, () -> loaded(STAY_21)).refuse("surcharge(1, 100)", x -> x.surcharge(1, 100));
        CHECK.same("11 steps of 2 are not", loaded(STAY_21).surcharge(2, 100), 22);
        SettleLayers closed = Made.ground(1, 0, 10, 10, 0);
        closed.load(0, 1);
        CHECK.same("no water goes", closed.surcharge(100_000, 100), BAD);
    }

    private static void stepOneTo100000() {
        CHECK.same("step 1", loaded(STAY_3).surcharge(1, 100), 3);
        CHECK.same("step 100,000", Made.onDay(0).surcharge(100_000, 1), 0);
        for (int step : new int[] {0, -1, 100_001, Integer.MIN_VALUE, Integer.MAX_VALUE}) {
            new Twins(CHECK, Made::busy).refuse("surcharge(" + step + ", 5)", x -> x.surcharge(step, 5));
            CHECK.same("step " + step + ", the end is 0", Made.onDay(0).surcharge(step, 5), BAD);
        }
        SettleLayers slow = Made.ground(1, 2, 1000, 1000, 0);
        slow.load(0, 80_000);
        slow.load(0, 10_000);
        // 24 steps with a leak of 2 let nearly 47 thousandths go.
        CHECK.same("far more than a load may be", slow.surcharge(100_000, 1), leastAtOnce(90_000, 2, 100_000));
        CHECK.holds("that is", slow.surcharge(100_000, 1) >= 1_000_000);
    }

    private static void daysOneTo100() {
        CHECK.same("1 day", loaded(STAY_3).surcharge(1, 1), 3);
        CHECK.same("100 days", loaded(STAY_3).surcharge(1, 100), 3);
        for (int days : new int[] {0, -1, 101, Integer.MIN_VALUE, Integer.MAX_VALUE}) {
            new Twins(CHECK, Made::busy).refuse("surcharge(5, " + days + ")", x -> x.surcharge(5, days));
            CHECK.same("days " + days + ", the end is 0", Made.onDay(0).surcharge(5, days), BAD);
        }
    }

    private static void noLayers() {
        new Twins(CHECK, SettleLayers::new).refuse("surcharge(1, 1)", x -> x.surcharge(1, 1));
        SettleLayers x = new SettleLayers();
        x.load(0, 5);
        CHECK.same("with a load", x.surcharge(100_000, 100), BAD);
    }

    /** What one cell of water needs more for a day, a micrometre a pascal. */
    private static int leastAtOnce(int water, int leak, int step) {
        for (int i = 0; i <= 20; i++) {
            int pressure = water + i * step;
            for (int k = 0; k < 24; k++) {
                pressure -= pressure * leak / 1000;
            }
            if (i * step >= pressure) {
                return i * step;
            }
        }
        return BAD;
    }

    private static void besidesTheDaysLoads() {
        SettleLayers x = Made.ground(1, 100, 1000, 1000, 0);
        x.load(0, 1000);
        CHECK.same("on the first day", x.surcharge(10, 1), leastAtOnce(1000, 100, 10));
        x.run(1);
        x.load(1, 1000);
        CHECK.same("with what is left and now's load", x.surcharge(10, 1), leastAtOnce(x.told(0, 0) + 1000, 100, 10));
    }

    private static void besidesTwelveLoads() {
        SettleLayers x = Made.ground(1, 300, 10, 10, 0);
        for (int i = 0; i < 12; i++) {
            x.load(0, 100);
        }
        CHECK.same("it is none of the loads", x.surcharge(1, 100), 3);
        CHECK.same("loads", x.count(2), 12);
    }

    private static void inSoManyDays() {
        SettleLayers x = Made.ground(10, 100, 1000, 1000, 0);
        x.load(0, 10_000);
        CHECK.same("20 steps are too little in 4 days", x.surcharge(1000, 4), BAD);
        int last = 20_001;
        for (int days : new int[] {5, 8, 10, 20, 40, 100}) {
            int more = x.surcharge(1000, days);
            CHECK.holds("the more days the less: " + more + " for " + days, more > 0 && more < last);
            last = more;
        }
    }

    private static void loadsThatComeMeanwhile() {
        SettleLayers x = Made.ground(1, 300, 1, 1, 0);
        x.load(0, 1000);
        x.load(50, 100);
        CHECK.same("before the later load comes", x.surcharge(1, 50), BAD);
        CHECK.same("before the later load comes, by 10", x.surcharge(10, 50), 110);
        CHECK.same("when it has come", x.surcharge(1, 51), 3);
    }

    private static void asMuchInUnits() {
        SettleLayers x = Made.ground(1, 1, 1, 1, 0);
        x.load(0, 1);
        CHECK.same("less than a micrometre counts", x.surcharge(1, 1), BAD);
        x = Made.ground(1, 300, 1, 1, 0);
        x.load(0, 10);
        CHECK.same("as many units, not fewer", x.surcharge(1, 100), 3);
    }

    private static void drainsAsTheyAre() {
        SettleLayers x = loaded(STAY_3);
        x.drains(false, false, 0);
        CHECK.same("closed", x.surcharge(100, 100), BAD);
        x.drains(false, false, 200);
        CHECK.same("4 pascals stay with a drain of 200", x.surcharge(1, 100), 4);
    }

    private static void beyondDay400() {
        SettleLayers x = Made.ground(1, 300, 10, 10, 0);
        x.load(399, 1000);
        Made.runTo(x, 400);
        CHECK.same("day 400 bounds run and load alone", x.surcharge(1, 100), 3);
    }

    private static void whatIsThereStays() {
        new Twins(CHECK, Made::busy).leave("surcharge(100, 30)", x -> x.surcharge(100, 30));
        new Twins(CHECK, Made::busy).leave("surcharge(1, 1)", x -> x.surcharge(1, 1));
        new Twins(CHECK, Made::busy).leave("surcharge(100000, 100)", x -> x.surcharge(100_000, 100));
    }
}
