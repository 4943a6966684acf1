/** Promises 10 (end), 11 (share), 12 (until) and 13 (surcharge). */
public final class FutureTest {
    private static final Check CHECK = new Check("FutureTest");
    private static final int BAD = SettleLayers.BAD;

    public static void main(String[] args) {
        endOfAllLoadsTold();
        endIsCutOffOnce();
        endStaysWhileDaysGoBy();
        shareOfTheEnd();
        shareOfNoEnd();
        untilNumbers();
        untilIsWhatRunsShow();
        untilGoesTo300Days();
        untilGoesBeyondDay400();
        untilLeavesAllAsItIs();
        surchargeNumbers();
        surchargeGoesTo20Steps();
        surchargeIsTheLeast();
        surchargeComesWithTheDaysLoads();
        surchargeUsesUnits();
        surchargeCountsLoadsThatComeLater();
        surchargeLeavesAllAsItIs();
        CHECK.finish();
    }

    private static SettleLayers ground(int cells, int leak, int hard, int soft, int past) {
        SettleLayers x = new SettleLayers();
        x.layer(cells, leak, hard, soft, past);
        return x;
    }

    private static void endOfAllLoadsTold() {
        SettleLayers x = ground(2, 100, 10, 50, 3000);
        CHECK.same("end without loads", x.end(), 0);
        x.load(0, 2000);
        CHECK.same("end within the past", x.end(), 2 * 2000 * 10 / 1000);
        x.load(399, 5000);
        CHECK.same("end beyond the past", x.end(), 2 * (3000 * 10 + 4000 * 50) / 1000);
        x.drains(false, false, 0);
        CHECK.same("closed ground has the same end", x.end(), 460);
        SettleLayers great = new SettleLayers();
        for (int i = 0; i < 3; i++) {
            great.layer(10, 300, 1000, 1000, 0);
        }
        for (int i = 0; i < 12; i++) {
            great.load(0, 200_000);
        }
        CHECK.same("the greatest end", great.end(), 72_000_000);
    }

    private static void endIsCutOffOnce() {
        SettleLayers x = new SettleLayers();
        x.layer(1, 100, 1, 1, 0);
        x.layer(1, 100, 1, 1, 0);
        x.load(0, 1999);
        CHECK.same("end of both together", x.end(), 3);
    }

    private static void endStaysWhileDaysGoBy() {
        SettleLayers x = new SettleLayers();
        x.layer(1, 300, 100, 900, 0);
        x.layer(1, 10, 3, 5, 40_000);
        x.load(0, 100_000);
        x.load(4, 60_000);
        long end = x.end();
        for (int day = 0; day < 9; day++) {
            x.drains(day < 5, day > 6, 0);
            x.run(1);
            CHECK.same("end on day " + day, x.end(), end);
        }
    }

    private static void shareOfTheEnd() {
        SettleLayers x = ground(1, 300, 10, 10, 0);
        x.load(0, 1000);
        CHECK.same("nothing yet", x.share(), 0);
        x.run(10);
        CHECK.same("997 of 1000", x.share(), 997);
        x.load(10, 2000);
        CHECK.same("997 of 3000", x.share(), 332);
        SettleLayers small = ground(1, 300, 1, 1, 0);
        small.load(0, 20);
        small.run(10);
        CHECK.same("reckoned in units, not in micrometres", small.share(), 850);
        SettleLayers whole = ground(1, 0, 10, 10, 0);
        whole.drains(false, false, 200);
        whole.load(0, 4);
        whole.run(1);
        CHECK.same("all stays in the water", whole.share(), 0);
    }

    private static void shareOfNoEnd() {
        SettleLayers bare = new SettleLayers();
        CHECK.same("no layers", bare.share(), 1000);
        SettleLayers idle = ground(1, 100, 10, 10, 0);
        CHECK.same("no loads", idle.share(), 1000);
        SettleLayers stiff = ground(1, 100, 0, 0, 0);
        stiff.load(0, 1000);
        CHECK.same("ground that doesn't sink", stiff.share(), 1000);
        SettleLayers stiffAtFirst = ground(1, 100, 0, 5, 1000);
        stiffAtFirst.load(0, 1000);
        CHECK.same("up to its past", stiffAtFirst.share(), 1000);
        stiffAtFirst.load(0, 1);
        CHECK.same("beyond its past", stiffAtFirst.share(), 0);
    }

    private static void untilNumbers() {
        SettleLayers bare = new SettleLayers();
        CHECK.same("no layers", bare.until(0), BAD);
        SettleLayers x = ground(1, 300, 10, 10, 0);
        CHECK.same("no end: done at once", x.until(1000), 0);
        x.load(0, 1000);
        CHECK.same("until(0)", x.until(0), 0);
        CHECK.same("until(997)", x.until(997), 1);
        CHECK.same("until(998): 3 pascals stay", x.until(998), BAD);
        CHECK.same("until(1000)", x.until(1000), BAD);
        for (int share : new int[] {-1, 1001, Integer.MIN_VALUE, Integer.MAX_VALUE}) {
            CHECK.same("until(" + share + ")", x.until(share), BAD);
        }
    }

    private static void untilIsWhatRunsShow() {
        for (int share = 0; share <= 1000; share += 50) {
            SettleLayers x = ground(4, 20, 3, 9, 10_000);
            x.load(0, 30_000);
            x.load(7, 20_000);
            x.run(2);
            int foreseen = x.until(share);
            int days = 0;
            while (days < 300 && x.share() < share) {
                x.run(1);
                days++;
            }
            CHECK.same("until(" + share + ")", foreseen, x.share() < share ? BAD : days);
        }
    }

    private static void untilGoesTo300Days() {
        SettleLayers x = ground(1, 300, 10, 10, 0);
        x.load(299, 100_000);
        CHECK.same("on the 300th day", x.until(1), 300);
        SettleLayers late = ground(1, 300, 10, 10, 0);
        late.load(300, 100_000);
        CHECK.same("on the 301st day", late.until(1), BAD);
        late.run(1);
        CHECK.same("a day later", late.until(1), 300);
    }

    private static void untilGoesBeyondDay400() {
        SettleLayers x = ground(10, 100, 10, 10, 0);
        x.load(399, 100_000);
        for (int i = 0; i < 6; i++) {
            x.run(60);
        }
        x.run(39);
        SettleLayers young = ground(10, 100, 10, 10, 0);
        young.load(0, 100_000);
        CHECK.holds("it takes more than a day", young.until(900) > 1);
        CHECK.same("days are not bounded by day 400", x.until(900), young.until(900));
    }

    private static void untilLeavesAllAsItIs() {
        SettleLayers x = busy();
        String before = Look.at(x);
        x.until(990);
        x.until(1000);
        CHECK.holds("until leaves all as it is", Look.at(x).equals(before));
        SettleLayers other = busy();
        x.run(5);
        other.run(5);
        CHECK.holds("also what comes then", Look.at(x).equals(Look.at(other)));
    }

    private static SettleLayers busy() {
        SettleLayers x = new SettleLayers();
        x.layer(2, 100, 10, 50, 3000);
        x.layer(3, 20, 5, 5, 0);
        x.drains(true, true, 1);
        x.load(0, 10_000);
        x.load(3, 10_000);
        x.load(200, 10_000);
        x.read(1, 50);
        x.read(4, 90);
        x.run(3);
        return x;
    }

    private static void surchargeNumbers() {
        SettleLayers bare = new SettleLayers();
        CHECK.same("no layers", bare.surcharge(1, 1), BAD);
        SettleLayers x = ground(1, 300, 10, 10, 0);
        CHECK.same("no end: nothing more", x.surcharge(1, 1), 0);
        CHECK.same("greatest numbers", x.surcharge(100_000, 100), 0);
        int[][] wrong = {
            {0, 1}, {-1, 1}, {100_001, 1}, {1, 0}, {1, -1}, {1, 101},
            {Integer.MIN_VALUE, 1}, {Integer.MAX_VALUE, 1}, {1, Integer.MIN_VALUE}, {1, Integer.MAX_VALUE},
        };
        for (int[] w : wrong) {
            CHECK.same("surcharge(" + w[0] + ", " + w[1] + ")", x.surcharge(w[0], w[1]), BAD);
        }
        x.load(0, 1000);
        // 3 pascals stay in the water in the long run, whatever the load.
        CHECK.same("3 more", x.surcharge(1, 100), 3);
        CHECK.same("two times 2", x.surcharge(2, 100), 4);
        CHECK.same("one time 100,000", x.surcharge(100_000, 100), 100_000);
    }

    private static void surchargeGoesTo20Steps() {
        // 20 pascals stay with a leak of 48, 21 with one of 47: less than a whole one would go.
        SettleLayers x = ground(1, 48, 10, 10, 0);
        x.load(0, 1000);
        CHECK.same("20 steps", x.surcharge(1, 100), 20);
        SettleLayers tighter = ground(1, 47, 10, 10, 0);
        tighter.load(0, 1000);
        CHECK.same("20 steps are too little", tighter.surcharge(1, 100), BAD);
        CHECK.same("greater steps are not", tighter.surcharge(2, 100), 22);
    }

    private static void surchargeIsTheLeast() {
        int[][] asked = {{500, 1}, {500, 2}, {300, 3}, {100, 10}, {1000, 1}, {7, 4}};
        for (int[] a : asked) {
            int due = BAD;
            for (int i = 20; i >= 0; i--) {
                SettleLayers tried = soft();
                long end = tried.end();
                if (i > 0) {
                    tried.load(2, i * a[0]);
                }
                tried.run(a[1]);
                if (tried.sunk(-1) >= end) {
                    due = i * a[0];
                }
            }
            CHECK.same("surcharge(" + a[0] + ", " + a[1] + ")", soft().surcharge(a[0], a[1]), due);
        }
    }

    /** Every pascal sinks a whole micrometre, so that micrometres tell all. */
    private static SettleLayers soft() {
        SettleLayers x = new SettleLayers();
        x.layer(2, 250, 1000, 1000, 0);
        x.layer(1, 90, 1000, 1000, 70);
        x.load(0, 3000);
        x.load(3, 1000);
        x.run(2);
        return x;
    }

    private static void surchargeComesWithTheDaysLoads() {
        SettleLayers x = ground(1, 100, 1000, 1000, 0);
        x.load(0, 1000);
        CHECK.same("on the first day", x.surcharge(10, 1), leastAtOnce(1000, 10));
        x.run(1);
        x.load(1, 1000);
        CHECK.same("with what is left and now's load", x.surcharge(10, 1), leastAtOnce(x.told(0, 0) + 1000, 10));
    }

    private static int leastAtOnce(int water, int step) {
        for (int i = 0; i <= 20; i++) {
            int pressure = water + i * step;
            for (int k = 0; k < 24; k++) {
                pressure -= pressure * 100 / 1000;
            }
            if (i * step >= pressure) {
                return i * step;
            }
        }
        return BAD;
    }

    private static void surchargeUsesUnits() {
        SettleLayers x = ground(1, 1, 1, 1, 0);
        x.load(0, 1);
        CHECK.same("less than a micrometre counts", x.surcharge(1, 1), BAD);
        x = ground(1, 300, 1, 1, 0);
        x.load(0, 10);
        CHECK.same("a few units", x.surcharge(1, 100), 3);
    }

    private static void surchargeCountsLoadsThatComeLater() {
        SettleLayers x = ground(1, 300, 1, 1, 0);
        x.load(0, 1000);
        x.load(50, 100);
        CHECK.same("before the later load comes", x.surcharge(1, 50), BAD);
        CHECK.same("before the later load comes, by 10", x.surcharge(10, 50), 110);
        CHECK.same("when it has come", x.surcharge(1, 51), 3);
    }

    private static void surchargeLeavesAllAsItIs() {
        SettleLayers x = busy();
        String before = Look.at(x);
        x.surcharge(100, 30);
        x.surcharge(1, 1);
        CHECK.holds("surcharge leaves all as it is", Look.at(x).equals(before));
        SettleLayers other = busy();
        x.run(5);
        other.run(5);
        CHECK.holds("also what comes then", Look.at(x).equals(Look.at(other)));
    }
}
