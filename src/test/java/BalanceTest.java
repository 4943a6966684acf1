/**
 * Promise 9: "THE THEOREM. Whether all loads that came, times the cells, are the pressures of all cells and water out
 * together."
 */
public final class BalanceTest {
    private static final Check CHECK = new Check("BalanceTest");

    public static void main(String[] args) {
        withoutLayers();
        loadsThatHaveNotCome();
        everyDay();
        closed();
        theGreatest();
        asksOnly();
        CHECK.finish();
    }

    private static void withoutLayers() {
        SettleLayers x = new SettleLayers();
        CHECK.same("new", x.balance(), true);
        x.load(0, 5);
        CHECK.same("with a load that can't come", x.balance(), true);
    }

    private static void loadsThatHaveNotCome() {
        SettleLayers x = Made.ground(3, 20, 1, 1, 0);
        x.load(0, 5000);
        x.load(8, 5000);
        CHECK.same("before their day", x.balance(), true);
        x.run(3);
        CHECK.same("when one has come", x.balance(), true);
    }

    private static void everyDay() {
        SettleLayers x = Made.ground(2, 300, 1, 1, 0);
        x.layer(3, 77, 2, 5, 1000);
        x.load(0, 200_000);
        x.load(3, 1);
        x.load(9, 123_457);
        for (int day = 1; day <= 40; day++) {
            x.drains(day % 2 == 0, day % 3 == 0, day % 7);
            x.run(1);
            long pressures = 0;
            for (int cell = 0; cell < 5; cell++) {
                pressures += x.told(cell, 0);
            }
            CHECK.same("by what is told on day " + day, pressures + x.out(), x.count(5) * 5L);
            CHECK.same("on day " + day, x.balance(), true);
        }
    }

    private static void closed() {
        SettleLayers x = Made.ground(5, 300, 1, 1, 0);
        x.drains(false, false, 0);
        x.load(0, 200_000);
        x.run(9);
        CHECK.same("closed ground", x.balance(), true);
    }

    private static void theGreatest() {
        SettleLayers x = Made.greatest();
        x.run(1);
        CHECK.same("the most cells and loads", x.balance(), true);
    }

    private static void asksOnly() {
        new Twins(CHECK, Made::busy).answer("balance()", x -> x.balance() ? 1 : 0, 1);
    }
}
