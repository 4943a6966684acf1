/** Promise 8: "Water out." (Terms: "all that went above, below and into drains".) */
public final class OutTest {
    private static final Check CHECK = new Check("OutTest");

    public static void main(String[] args) {
        nothingAtFirst();
        above();
        below();
        intoDrains();
        betweenCellsIsNotOut();
        closed();
        allWaysDayByDay();
        theMostThatCanGo();
        asksOnly();
        CHECK.finish();
    }

    private static SettleLayers ground(boolean above, boolean below, int drain) {
        SettleLayers x = Made.ground(1, 300, 1, 1, 0);
        x.drains(above, below, drain);
        x.load(0, 1000);
        x.run(2);
        return x;
    }

    private static void nothingAtFirst() {
        CHECK.same("new", new SettleLayers().out(), 0);
        SettleLayers x = Made.ground(1, 300, 1, 1, 0);
        x.load(0, 1000);
        CHECK.same("before a day", x.out(), 0);
    }

    private static void above() {
        CHECK.same("all but 3 pascals", ground(true, false, 0).out(), 997);
    }

    private static void below() {
        CHECK.same("all but 3 pascals", ground(false, true, 0).out(), 997);
    }

    private static void intoDrains() {
        CHECK.same("all but 4 pascals", ground(false, false, 200).out(), 996);
    }

    private static void betweenCellsIsNotOut() {
        SettleLayers x = Made.ground(1, 300, 1, 1, 0);
        x.layer(1, 100, 1, 1, 0);
        x.load(0, 100_000);
        x.run(1);
        long out = x.out();
        int upper = x.told(0, 0);
        x.drains(false, false, 0);
        x.run(1);
        CHECK.holds("water went up", x.told(0, 0) > upper);
        CHECK.same("none of it is out", x.out(), out);
    }

    private static void closed() {
        CHECK.same("nothing", ground(false, false, 0).out(), 0);
    }

    private static void allWaysDayByDay() {
        SettleLayers x = Made.ground(2, 300, 1, 1, 0);
        x.layer(3, 77, 2, 5, 1000);
        x.drains(true, true, 13);
        x.load(0, 200_000);
        x.load(3, 1);
        x.load(9, 123_457);
        long last = 0;
        for (int day = 1; day <= 12; day++) {
            x.run(1);
            long pressures = 0;
            for (int cell = 0; cell < 5; cell++) {
                pressures += x.told(cell, 0);
            }
            CHECK.same("out on day " + day, x.out(), x.count(5) * 5L - pressures);
            CHECK.holds("water only leaves", x.out() > last);
            last = x.out();
        }
    }

    private static void theMostThatCanGo() {
        SettleLayers x = Made.greatest();
        x.drains(false, false, 200);
        x.run(20);
        CHECK.same("all but 4 pascals of each cell", x.out(), 30 * 2_399_996L);
    }

    private static void asksOnly() {
        new Twins(CHECK, Made::busy).leave("out()", x -> x.out());
    }
}
