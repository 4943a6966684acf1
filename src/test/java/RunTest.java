/**
 * Promise 5: "So many days (1 .. 60) go by, up to day 400: the day then. BAD: none such; it would be a later day; no
 * layers."
 */
public final class RunTest {
    private static final Check CHECK = new Check("RunTest");
    private static final int BAD = SettleLayers.BAD;

    public static void main(String[] args) {
        theDayThen();
        daysOneTo60();
        upToDay400();
        notBeyondDay400();
        noLayers();
        daysTogetherAndOneByOne();
        CHECK.finish();
    }

    private static void theDayThen() {
        SettleLayers x = Made.onDay(0);
        CHECK.same("run(2)", x.run(2), 2);
        CHECK.same("run(5)", x.run(5), 7);
        CHECK.same("the day", x.count(3), 7);
    }

    private static void daysOneTo60() {
        CHECK.same("run(1)", Made.onDay(0).run(1), 1);
        CHECK.same("run(60)", Made.onDay(0).run(60), 60);
        for (int days : new int[] {0, -1, 61, Integer.MIN_VALUE, Integer.MAX_VALUE}) {
            new Twins(CHECK, Made::busy).refuse("run(" + days + ")", x -> x.run(days));
        }
    }

    private static void upToDay400() {
        SettleLayers x = Made.onDay(0);
        x.load(399, 77);
        for (int day = 60; day <= 360; day += 60) {
            CHECK.same("run(60)", x.run(60), day);
        }
        CHECK.same("to day 399", x.run(39), 399);
        CHECK.same("the load of day 399 hasn't come", x.count(5), 0);
        CHECK.same("to day 400", x.run(1), 400);
        CHECK.same("the load of day 399 has come", x.count(5), 77);
        CHECK.same("40 days to day 400", Made.onDay(360).run(40), 400);
        CHECK.same("60 days to day 400", Made.onDay(340).run(60), 400);
    }

    private static void notBeyondDay400() {
        new Twins(CHECK, () -> Made.onDay(360)).refuse("41 days to day 401", x -> x.run(41));
        new Twins(CHECK, () -> Made.onDay(341)).refuse("60 days to day 401", x -> x.run(60));
        new Twins(CHECK, () -> Made.onDay(399)).refuse("2 days to day 401", x -> x.run(2));
        new Twins(CHECK, () -> Made.onDay(400)).refuse("a day to day 401", x -> x.run(1));
        CHECK.same("more days than an int has", Made.onDay(400).run(Integer.MAX_VALUE), BAD);
    }

    private static void noLayers() {
        new Twins(CHECK, SettleLayers::new).refuse("run(1)", x -> x.run(1));
        SettleLayers x = new SettleLayers();
        x.load(0, 5);
        CHECK.same("run(1), with a load", x.run(1), BAD);
        CHECK.same("no day went by", x.count(3), 0);
        CHECK.same("no load came", x.count(5), 0);
    }

    private static void daysTogetherAndOneByOne() {
        SettleLayers together = Made.busy();
        SettleLayers oneByOne = Made.busy();
        together.run(60);
        for (int i = 0; i < 60; i++) {
            oneByOne.run(1);
        }
        CHECK.holds("60 days are 60 times a day", Look.at(together).equals(Look.at(oneByOne)));
    }
}
