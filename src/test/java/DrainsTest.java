/** Promise 3: "Whether it is drained above, below, and the drain. False: no such drain." */
public final class DrainsTest {
    private static final Check CHECK = new Check("DrainsTest");

    public static void main(String[] args) {
        drainsUpTo200();
        noSuchDrain();
        refusedLeavesAboveAndBelow();
        above();
        below();
        aboveAndBelow();
        drainFromEachCell();
        theLastToldCounts();
        atAnyTime();
        CHECK.finish();
    }

    private static void drainsUpTo200() {
        SettleLayers x = new SettleLayers();
        CHECK.same("drain 0", x.drains(false, false, 0), true);
        CHECK.same("drain 1", x.drains(false, true, 1), true);
        CHECK.same("drain 200", x.drains(true, true, 200), true);
    }

    private static void noSuchDrain() {
        for (int drain : new int[] {-1, 201, Integer.MIN_VALUE, Integer.MAX_VALUE}) {
            new Twins(CHECK, Made::busy).answer("drain " + drain, x -> x.drains(false, false, drain) ? 1 : 0, 0);
            new Twins(CHECK, SettleLayers::new).answer("new, " + drain, x -> x.drains(false, true, drain) ? 1 : 0, 0);
        }
    }

    private static void refusedLeavesAboveAndBelow() {
        SettleLayers x = Made.ground(1, 50, 10, 10, 0);
        x.drains(false, true, 30);
        x.drains(true, false, 201);
        x.load(0, 100_000);
        x.run(1);
        CHECK.same("as it was told before", x.told(0, 0), left(50, 1, 30));
    }

    /** The pressure that a day leaves of 100,000 in one cell that water leaves in so many ways by its leak. */
    private static int left(int leak, int ways, int drain) {
        int pressure = 100_000;
        for (int step = 0; step < 24; step++) {
            pressure -= ways * (pressure * leak / 1000) + pressure * drain / 1000;
        }
        return pressure;
    }

    private static int leftIn(int leak, boolean above, boolean below, int drain) {
        SettleLayers x = Made.ground(1, leak, 10, 10, 0);
        x.drains(above, below, drain);
        x.load(0, 100_000);
        x.run(1);
        return x.told(0, 0);
    }

    private static SettleLayers twoCells(boolean above, boolean below) {
        SettleLayers x = Made.ground(1, 50, 10, 10, 0);
        x.layer(1, 0, 10, 10, 0);
        x.drains(above, below, 0);
        x.load(0, 100_000);
        x.run(1);
        return x;
    }

    private static void above() {
        CHECK.same("one cell", leftIn(50, true, false, 0), left(50, 1, 0));
        CHECK.same("closed", leftIn(50, false, false, 0), 100_000);
        CHECK.same("the first of two cells", twoCells(true, false).told(0, 0), left(50, 1, 0));
        CHECK.same("it alone", twoCells(true, false).told(1, 0), 100_000);
    }

    private static void below() {
        CHECK.same("one cell", leftIn(50, false, true, 0), left(50, 1, 0));
        CHECK.same("not by the first cell's leak", twoCells(false, true).out(), 0);
        SettleLayers x = Made.ground(1, 0, 10, 10, 0);
        x.layer(1, 50, 10, 10, 0);
        x.drains(false, true, 0);
        x.load(0, 100_000);
        x.run(1);
        CHECK.same("the first of two cells", x.told(0, 0), 100_000);
        CHECK.same("the last of two cells", x.told(1, 0), left(50, 1, 0));
    }

    private static void aboveAndBelow() {
        CHECK.same("one cell", leftIn(50, true, true, 0), left(50, 2, 0));
        CHECK.same("all there can be", leftIn(300, true, true, 200), left(300, 2, 200));
    }

    private static void drainFromEachCell() {
        CHECK.same("drain 30", leftIn(50, false, false, 30), left(50, 0, 30));
        CHECK.same("drain 200", leftIn(50, false, false, 200), left(50, 0, 200));
        SettleLayers x = Made.ground(3, 0, 10, 10, 0);
        x.layer(1, 0, 10, 10, 0);
        x.drains(true, true, 100);
        x.load(0, 100_000);
        x.run(1);
        for (int cell = 0; cell < 4; cell++) {
            CHECK.same("cell " + cell, x.told(cell, 0), left(0, 0, 100));
        }
    }

    private static void theLastToldCounts() {
        SettleLayers x = Made.ground(1, 50, 10, 10, 0);
        x.drains(true, true, 200);
        x.drains(false, false, 0);
        x.load(0, 100_000);
        x.run(1);
        CHECK.same("closed from now on", x.told(0, 0), 100_000);
        x.drains(false, true, 0);
        x.run(1);
        CHECK.same("open below from now on", x.told(0, 0), left(50, 1, 0));
        x.drains(false, false, 0);
        x.run(60);
        CHECK.same("closed again", x.told(0, 0), left(50, 1, 0));
    }

    private static void atAnyTime() {
        CHECK.same("without layers", new SettleLayers().drains(true, true, 5), true);
        CHECK.same("on day 3, after loads", Made.busy().drains(true, true, 5), true);
        CHECK.same("on day 400", Made.onDay(400).drains(true, true, 5), true);
    }
}
