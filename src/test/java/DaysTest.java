/** Promises 4 (load), 5 (run), 6 (sunk), 7 (told), 8 (out) and 9 (balance). */
public final class DaysTest {
    private static final Check CHECK = new Check("DaysTest");
    private static final int BAD = SettleLayers.BAD;

    public static void main(String[] args) {
        loadNumbers();
        loadRefusesPastDays();
        loadRefusesTheThirteenth();
        loadsComeAtTheBeginningOfTheirDay();
        runNumbers();
        runEndsAtDay400();
        runNeedsLayers();
        sunkByHardAndSoft();
        sunkOfLayers();
        comesUpByHard();
        sinksByHardUpToItsPast();
        toldNumbers();
        waterGoesByTheLesserLeak();
        waterGoesFromWhatWasBefore();
        waterGoesUpToo();
        outAndBalance();
        thirtyCells();
        CHECK.finish();
    }

    private static SettleLayers ground(int cells, int leak, int hard, int soft, int past) {
        SettleLayers x = new SettleLayers();
        x.layer(cells, leak, hard, soft, past);
        return x;
    }

    private static void loadNumbers() {
        SettleLayers x = ground(1, 100, 1, 1, 0);
        CHECK.same("least load", x.load(0, 1), 1);
        CHECK.same("greatest load, last day", x.load(399, 200_000), 2);
        int[][] wrong = {
            {0, 0}, {0, -1}, {0, 200_001}, {-1, 5}, {400, 5},
            {Integer.MIN_VALUE, 5}, {Integer.MAX_VALUE, 5}, {0, Integer.MIN_VALUE}, {0, Integer.MAX_VALUE},
        };
        for (int[] w : wrong) {
            CHECK.same("load(" + w[0] + ", " + w[1] + ")", x.load(w[0], w[1]), BAD);
        }
        CHECK.same("wrong loads are none", x.count(2), 2);
        CHECK.same("another load on the same day", x.load(0, 1), 3);
    }

    private static void loadRefusesPastDays() {
        SettleLayers x = ground(1, 100, 1, 1, 0);
        x.run(5);
        CHECK.same("load on the day before", x.load(4, 5), BAD);
        CHECK.same("load on now's day", x.load(5, 5), 1);
        x.run(1);
        CHECK.same("it came", x.count(5), 5);
    }

    private static void loadRefusesTheThirteenth() {
        SettleLayers x = ground(1, 100, 1, 1, 0);
        for (int i = 1; i <= 12; i++) {
            CHECK.same("load " + i, x.load(i, i), i);
        }
        CHECK.same("load 13", x.load(1, 1), BAD);
        x.run(60);
        CHECK.same("also when all have come", x.load(70, 1), BAD);
        CHECK.same("all that came", x.count(5), 78);
    }

    private static void loadsComeAtTheBeginningOfTheirDay() {
        SettleLayers x = ground(2, 0, 1, 1, 0);
        x.load(1, 300);
        x.load(1, 40);
        x.run(1);
        CHECK.same("pressure before the load's day", x.told(1, 0), 0);
        x.run(1);
        CHECK.same("pressure of the first cell", x.told(0, 0), 340);
        CHECK.same("pressure of the second cell", x.told(1, 0), 340);
        CHECK.same("it carries no more", x.told(1, 1), 0);
        x.run(1);
        CHECK.same("a load comes once", x.told(1, 0), 340);
    }

    private static void runNumbers() {
        SettleLayers x = ground(1, 100, 1, 1, 0);
        CHECK.same("run(1)", x.run(1), 1);
        CHECK.same("run(60)", x.run(60), 61);
        for (int days : new int[] {0, -1, 61, Integer.MIN_VALUE, Integer.MAX_VALUE}) {
            CHECK.same("run(" + days + ")", x.run(days), BAD);
        }
        CHECK.same("the day stays", x.count(3), 61);
    }

    private static void runEndsAtDay400() {
        SettleLayers x = ground(1, 100, 1, 1, 0);
        x.load(399, 77);
        for (int day = 60; day <= 360; day += 60) {
            CHECK.same("run(60)", x.run(60), day);
        }
        CHECK.same("to day 401", x.run(41), BAD);
        CHECK.same("to day 399", x.run(39), 399);
        CHECK.same("to day 401 again", x.run(2), BAD);
        CHECK.same("the load of day 399 hasn't come", x.count(5), 0);
        CHECK.same("to day 400", x.run(1), 400);
        CHECK.same("the load of day 399 has come", x.count(5), 77);
        CHECK.same("beyond", x.run(1), BAD);
        CHECK.same("no load on day 400", x.load(400, 1), BAD);
    }

    private static void runNeedsLayers() {
        SettleLayers x = new SettleLayers();
        CHECK.same("run without layers", x.run(1), BAD);
        CHECK.same("no day went by", x.count(3), 0);
        CHECK.same("so layers may still come", x.layer(1, 1, 1, 1, 1), 0);
    }

    private static void sunkByHardAndSoft() {
        SettleLayers x = ground(1, 300, 10, 50, 300);
        x.load(0, 1000);
        x.run(5);
        // 3 pascals stay: 3 times 300 by 1,000 is cut off to 0. So it carries 997, 697 of them beyond its past.
        CHECK.same("pressure that stays", x.told(0, 0), 3);
        CHECK.same("what it carries", x.told(0, 1), 997);
        CHECK.same("its past", x.told(0, 2), 997);
        CHECK.same("sunk, cut off", x.sunk(-1), (300 * 10 + 697 * 50) / 1000);
        CHECK.same("sunk of the layer", x.sunk(0), (300 * 10 + 697 * 50) / 1000);
    }

    private static void sunkOfLayers() {
        SettleLayers x = new SettleLayers();
        x.layer(1, 300, 1, 1, 0);
        x.layer(2, 300, 2, 2, 0);
        x.drains(false, false, 200);
        x.load(0, 904);
        x.run(10);
        // 4 pascals stay in each cell, which carries 900.
        CHECK.same("first layer", x.sunk(0), 0);
        CHECK.same("second layer", x.sunk(1), 3);
        CHECK.same("all, cut off once", x.sunk(-1), 4);
        for (int layer : new int[] {-2, 2, Integer.MIN_VALUE, Integer.MAX_VALUE}) {
            CHECK.same("sunk(" + layer + ")", x.sunk(layer), BAD);
        }
    }

    /** The upper cell gives water off above; closed, it takes water from the lower one and carries less. */
    private static void comesUpByHard() {
        SettleLayers x = new SettleLayers();
        x.layer(1, 300, 100, 900, 0);
        x.layer(1, 10, 0, 0, 0);
        x.load(0, 200_000);
        x.run(1);
        long sunk = x.sunk(0);
        long carried = x.told(0, 1);
        CHECK.same("sunk by soft alone", sunk, carried * 900 / 1000);
        x.drains(false, false, 0);
        x.run(60);
        long carriedThen = x.told(0, 1);
        CHECK.holds("the upper cell carries less", carriedThen < carried - 1000);
        CHECK.same("its past stays", x.told(0, 2), carried);
        CHECK.same("it came up by hard", x.sunk(0), (carried * 900 - (carried - carriedThen) * 100) / 1000);

        x.drains(true, false, 0);
        x.run(60);
        long carriedLast = x.told(0, 1);
        CHECK.holds("the upper cell carries more than ever", carriedLast > carried);
        CHECK.same("by hard to its past, by soft beyond", x.sunk(0), carriedLast * 900 / 1000);
    }

    private static void sinksByHardUpToItsPast() {
        SettleLayers x = ground(1, 300, 7, 1000, 5000);
        x.load(0, 5003);
        x.run(10);
        CHECK.same("carries its past", x.told(0, 1), 5000);
        CHECK.same("by hard alone", x.sunk(-1), 35);
        CHECK.same("its past is what it was", x.told(0, 2), 5000);
        x.load(10, 1);
        x.run(1);
        CHECK.same("one pascal beyond", x.told(0, 2), 5001);
        CHECK.same("by soft for it", x.sunk(-1), 36);
    }

    private static void toldNumbers() {
        SettleLayers x = ground(2, 100, 1, 1, 44);
        x.load(0, 500);
        CHECK.same("pressure before the day goes by", x.told(1, 0), 0);
        CHECK.same("carried before the day goes by", x.told(1, 1), 0);
        CHECK.same("past", x.told(1, 2), 44);
        x.run(1);
        CHECK.same("pressure and carried are the load", x.told(0, 0) + x.told(0, 1), 500);
        int[][] wrong = {
            {-1, 0}, {2, 0}, {0, -1}, {0, 3}, {Integer.MIN_VALUE, 0}, {Integer.MAX_VALUE, 0},
            {0, Integer.MIN_VALUE}, {0, Integer.MAX_VALUE}, {30, 1}, {31, 2},
        };
        for (int[] w : wrong) {
            CHECK.same("told(" + w[0] + ", " + w[1] + ")", x.told(w[0], w[1]), BAD);
        }
    }

    private static void waterGoesByTheLesserLeak() {
        int[][] leaks = {{200, 30}, {30, 200}, {300, 0}, {0, 300}};
        for (int[] leak : leaks) {
            SettleLayers x = new SettleLayers();
            x.layer(1, leak[0], 1, 1, 0);
            x.layer(1, leak[1], 1, 1, 0);
            x.load(0, 90_000);
            x.run(1);
            int upper = 90_000;
            int lower = 90_000;
            for (int step = 0; step < 24; step++) {
                int above = upper * leak[0] / 1000;
                int down = (upper - lower) * Math.min(leak[0], leak[1]) / 1000;
                upper -= above + down;
                lower += down;
            }
            CHECK.same("upper, leaks " + leak[0] + " and " + leak[1], x.told(0, 0), upper);
            CHECK.same("lower, leaks " + leak[0] + " and " + leak[1], x.told(1, 0), lower);
        }
    }

    private static void waterGoesFromWhatWasBefore() {
        SettleLayers x = ground(3, 200, 1, 1, 0);
        x.drains(true, true, 10);
        x.load(0, 12_345);
        x.run(1);
        int[] p = {12_345, 12_345, 12_345};
        long out = 0;
        for (int step = 0; step < 24; step++) {
            int above = p[0] * 200 / 1000;
            int first = (p[0] - p[1]) * 200 / 1000;
            int second = (p[1] - p[2]) * 200 / 1000;
            int below = p[2] * 200 / 1000;
            int[] drained = {p[0] * 10 / 1000, p[1] * 10 / 1000, p[2] * 10 / 1000};
            p[0] += -above - first - drained[0];
            p[1] += first - second - drained[1];
            p[2] += second - below - drained[2];
            out += above + below + drained[0] + drained[1] + drained[2];
        }
        for (int cell = 0; cell < 3; cell++) {
            CHECK.same("pressure of cell " + cell, x.told(cell, 0), p[cell]);
        }
        CHECK.same("out of all", x.out(), out);
    }

    private static void waterGoesUpToo() {
        SettleLayers below = ground(2, 150, 1, 1, 0);
        below.drains(false, true, 0);
        below.load(0, 50_000);
        below.run(2);
        SettleLayers above = ground(2, 150, 1, 1, 0);
        above.load(0, 50_000);
        above.run(2);
        CHECK.same("cut off towards 0 both ways: near cell", below.told(1, 0), above.told(0, 0));
        CHECK.same("cut off towards 0 both ways: far cell", below.told(0, 0), above.told(1, 0));
    }

    private static void outAndBalance() {
        SettleLayers x = ground(2, 300, 1, 1, 0);
        x.layer(3, 77, 2, 5, 1000);
        x.drains(true, true, 13);
        x.load(0, 200_000);
        x.load(3, 1);
        x.load(9, 123_457);
        CHECK.same("no water before days", x.out(), 0);
        CHECK.same("balance before days", x.balance(), true);
        long last = 0;
        for (int day = 1; day <= 12; day++) {
            x.run(1);
            long pressures = 0;
            for (int cell = 0; cell < 5; cell++) {
                pressures += x.told(cell, 0);
            }
            CHECK.same("out on day " + day, x.out(), x.count(5) * 5L - pressures);
            CHECK.same("balance on day " + day, x.balance(), true);
            CHECK.holds("water only leaves", x.out() > last);
            last = x.out();
        }
        SettleLayers closed = ground(5, 300, 1, 1, 0);
        closed.drains(false, false, 0);
        closed.load(0, 200_000);
        closed.run(9);
        CHECK.same("nothing out of closed ground", closed.out(), 0);
        CHECK.same("closed ground balances", closed.balance(), true);
    }

    private static void thirtyCells() {
        SettleLayers x = new SettleLayers();
        for (int i = 0; i < 3; i++) {
            x.layer(10, 300, 1000, 1000, 0);
        }
        x.drains(true, true, 200);
        for (int i = 0; i < 12; i++) {
            x.load(0, 200_000);
        }
        x.run(60);
        CHECK.same("all that came", x.count(5), 2_400_000);
        CHECK.same("the greatest loads balance", x.balance(), true);
        long carried = 0;
        for (int cell = 0; cell < 30; cell++) {
            carried += x.told(cell, 1);
        }
        CHECK.same("a micrometre for each pascal", x.sunk(-1), carried);
        CHECK.same("the end", x.end(), 72_000_000);
        CHECK.same("nearly all", x.share(), 999);
    }
}
