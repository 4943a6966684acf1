/**
 * Promise 10: "The end, in micrometres, cut off." (Terms: "what has sunk when all loads that were told, also those of
 * days to come, are carried by all cells: by each from what it carries now to that in one".)
 */
public final class EndTest {
    private static final Check CHECK = new Check("EndTest");

    public static void main(String[] args) {
        noLayers();
        noLoads();
        withinThePast();
        beyondThePast();
        loadsOfDaysToCome();
        refusedLoadsDoNotCount();
        drainsDoNotMatter();
        cutOff();
        cutOffOnce();
        fromWhatItCarriesNow();
        staysWhileDaysGoBy();
        theGreatest();
        asksOnly();
        CHECK.finish();
    }

    private static long endOf(int hard, int soft, int past, int pascals) {
        SettleLayers x = Made.ground(1, 100, hard, soft, past);
        x.load(0, pascals);
        return x.end();
    }

    private static void noLayers() {
        SettleLayers x = new SettleLayers();
        CHECK.same("new", x.end(), 0);
        x.load(0, 200_000);
        CHECK.same("with a load", x.end(), 0);
    }

    private static void noLoads() {
        CHECK.same("without loads", Made.ground(10, 100, 10, 50, 0).end(), 0);
    }

    private static void withinThePast() {
        CHECK.same("by hard", endOf(10, 500, 3000, 2000), 20);
        CHECK.same("just up to the past", endOf(10, 500, 3000, 3000), 30);
        CHECK.same("stiff", endOf(0, 1000, 3000, 3000), 0);
    }

    private static void beyondThePast() {
        CHECK.same("two pascals beyond", endOf(10, 500, 3000, 3002), 31);
        CHECK.same("far beyond", endOf(10, 500, 3000, 5000), 30 + 1000);
        CHECK.same("by soft alone", endOf(10, 500, 0, 5000), 2500);
        CHECK.same("it never sinks", endOf(0, 0, 0, 5000), 0);
    }

    private static void loadsOfDaysToCome() {
        SettleLayers x = Made.ground(2, 100, 10, 50, 3000);
        x.load(0, 2000);
        CHECK.same("of now", x.end(), 2 * 20);
        x.load(399, 5000);
        CHECK.same("and of day 399", x.end(), 2 * (30 + 200));
    }

    private static void refusedLoadsDoNotCount() {
        SettleLayers x = Made.ground(1, 100, 1000, 1000, 0);
        x.load(0, 200_001);
        x.load(400, 5);
        CHECK.same("refused", x.end(), 0);
        for (int i = 0; i < 13; i++) {
            x.load(0, 1);
        }
        CHECK.same("twelve, not thirteen", x.end(), 12);
    }

    private static void drainsDoNotMatter() {
        SettleLayers x = Made.ground(2, 0, 10, 50, 3000);
        x.load(0, 7000);
        x.drains(false, false, 0);
        x.run(9);
        CHECK.same("closed ground has an end too", x.end(), 460);
    }

    private static void cutOff() {
        CHECK.same("999 units", endOf(1, 1, 0, 999), 0);
        CHECK.same("1,000 units", endOf(1, 1, 0, 1000), 1);
    }

    private static void cutOffOnce() {
        SettleLayers x = Made.ground(1, 100, 1, 1, 0);
        x.layer(1, 100, 1, 1, 0);
        x.load(0, 1999);
        CHECK.same("3,998 units of two layers", x.end(), 3);
    }

    /** The upper cell has carried more than now: from now by hard to its past, by soft beyond. */
    private static void fromWhatItCarriesNow() {
        SettleLayers x = Made.ground(1, 300, 100, 900, 0);
        x.layer(1, 10, 0, 0, 0);
        x.load(0, 200_000);
        x.run(1);
        x.drains(false, false, 0);
        x.run(60);
        long now = x.told(0, 1);
        long past = x.told(0, 2);
        CHECK.holds("it carries less than its past", now < past);
        long units = past * 900 - (past - now) * 100;
        CHECK.same("what has sunk", x.sunk(-1), units / 1000);
        CHECK.same("the end", x.end(), (units + (past - now) * 100 + (200_000 - past) * 900) / 1000);
    }

    private static void staysWhileDaysGoBy() {
        SettleLayers x = Made.ground(1, 300, 100, 900, 0);
        x.layer(1, 10, 3, 5, 40_000);
        x.load(0, 100_000);
        x.load(4, 60_000);
        long end = x.end();
        for (int day = 0; day < 9; day++) {
            x.drains(day < 5, day > 6, 0);
            x.run(1);
            CHECK.same("end on day " + day, x.end(), end);
        }
    }

    private static void theGreatest() {
        CHECK.same("72 metres", Made.greatest().end(), 72_000_000);
    }

    private static void asksOnly() {
        new Twins(CHECK, Made::busy).leave("end()", x -> x.end());
    }
}
