/** "What it is" and "Terms": the numbers and rules that all promises rest on, each with a test of its own. */
public final class TermsTest {
    private static final Check CHECK = new Check("TermsTest");

    public static void main(String[] args) {
        usedFor512Calls();
        pressureIsZeroAtFirst();
        carriesLoadsLessPressure();
        drainedAboveAtFirst();
        notDrainedBelowAtFirst();
        noDrainAtFirst();
        dayHas24Steps();
        goesAboveCutOff();
        goesBelowCutOff();
        goesIntoDrainsCutOff();
        goesDownCutOff();
        goesUpCutOffTowardsZero();
        goesByTheLesserLeak();
        leakZeroLetsNothingThrough();
        leakAndDrainAtTheirMost();
        goesFromWhatThereIsBefore();
        goesThroughThirtyCells();
        sinksByHardUpToItsPast();
        sinksBySoftBeyondItsPast();
        pastOfZero();
        pastOfAMillion();
        pastBecomesWhatItCarries();
        eachCellHasItsPast();
        comesUpByHard();
        sinksAgainByHardUpToItsPast();
        sinksInEachStep();
        hardAndSoftOfZero();
        unitsAreThousandthsOfAMicrometre();
        CHECK.finish();
    }

    private static SettleLayers loaded(int leak, int pascals) {
        SettleLayers x = Made.ground(1, leak, 10, 10, 0);
        x.load(0, pascals);
        return x;
    }

    /** 1 layer, 12 loads, 20 readings, 400 days, 78 questions, and the last one. */
    private static void usedFor512Calls() {
        SettleLayers x = new SettleLayers();
        CHECK.same("layer", x.layer(10, 300, 10, 20, 1000), 0);
        for (int i = 1; i <= 12; i++) {
            CHECK.same("load " + i, x.load(30 * i, 1000), i);
        }
        for (int i = 1; i <= 20; i++) {
            CHECK.same("reading " + i, x.read(20 * i, 1_000_000), i);
        }
        for (int day = 1; day <= 400; day++) {
            CHECK.same("run(1)", x.run(1), day);
        }
        for (int i = 0; i < 78; i++) {
            CHECK.same("off(0)", x.off(0), 20);
        }
        CHECK.same("the 512th call", x.count(5), 12_000);
    }

    private static void pressureIsZeroAtFirst() {
        SettleLayers x = Made.ground(2, 100, 1, 1, 44);
        CHECK.same("of the first cell", x.told(0, 0), 0);
        CHECK.same("of the second cell", x.told(1, 0), 0);
    }

    private static void carriesLoadsLessPressure() {
        SettleLayers x = Made.ground(2, 100, 1, 1, 44);
        CHECK.same("nothing at first", x.told(1, 1), 0);
        x.load(0, 500);
        x.load(2, 3000);
        x.run(2);
        CHECK.same("the first load", x.told(0, 0) + x.told(0, 1), 500);
        x.run(1);
        CHECK.same("both loads, first cell", x.told(0, 0) + x.told(0, 1), 3500);
        CHECK.same("both loads, second cell", x.told(1, 0) + x.told(1, 1), 3500);
    }

    private static void drainedAboveAtFirst() {
        SettleLayers x = loaded(300, 1000);
        x.run(1);
        CHECK.same("3 pascals stay", x.told(0, 0), 3);
    }

    private static void notDrainedBelowAtFirst() {
        SettleLayers x = Made.ground(1, 0, 10, 10, 0);
        x.layer(1, 300, 10, 10, 0);
        x.load(0, 1000);
        x.run(1);
        CHECK.same("nothing goes", x.told(1, 0), 1000);
    }

    private static void noDrainAtFirst() {
        SettleLayers x = Made.ground(3, 0, 10, 10, 0);
        x.load(0, 200_000);
        x.run(1);
        CHECK.same("nothing goes", x.told(1, 0), 200_000);
    }

    /** With a leak of 1 a pascal goes in each step, while there are 1,000 to 1,999. */
    private static void dayHas24Steps() {
        SettleLayers x = loaded(1, 1100);
        x.run(1);
        CHECK.same("a day", x.told(0, 0), 1100 - 24);
        x.run(2);
        CHECK.same("3 days", x.told(0, 0), 1100 - 72);
        SettleLayers last = loaded(1, 1023);
        last.run(1);
        CHECK.same("the last step takes one too", last.told(0, 0), 999);
    }

    private static int leftAbove(int leak, int pascals) {
        SettleLayers x = loaded(leak, pascals);
        x.run(1);
        return x.told(0, 0);
    }

    private static void goesAboveCutOff() {
        CHECK.same("999 by 1,000", leftAbove(1, 999), 999);
        CHECK.same("1,000 by 1,000", leftAbove(1, 1000), 999);
        CHECK.same("900 by 1,000", leftAbove(300, 3), 3);
        CHECK.same("1,200 by 1,000", leftAbove(300, 4), 3);
    }

    private static int leftWith(boolean below, int drain, int leak, int pascals) {
        SettleLayers x = loaded(leak, pascals);
        x.drains(false, below, drain);
        x.run(1);
        CHECK.same("what went is out", x.out(), pascals - x.told(0, 0));
        return x.told(0, 0);
    }

    private static void goesBelowCutOff() {
        CHECK.same("999 by 1,000", leftWith(true, 0, 1, 999), 999);
        CHECK.same("1,000 by 1,000", leftWith(true, 0, 1, 1000), 999);
        CHECK.same("900 by 1,000", leftWith(true, 0, 300, 3), 3);
        CHECK.same("1,200 by 1,000", leftWith(true, 0, 300, 4), 3);
    }

    private static void goesIntoDrainsCutOff() {
        CHECK.same("999 by 1,000", leftWith(false, 1, 0, 999), 999);
        CHECK.same("1,000 by 1,000", leftWith(false, 1, 0, 1000), 999);
        CHECK.same("800 by 1,000", leftWith(false, 200, 0, 4), 4);
        CHECK.same("1,000 by 1,000, drain 200", leftWith(false, 200, 0, 5), 4);
    }

    /** The lower cell gives off all but 3 pascals below; the upper one goes down to it by a leak of 1. */
    private static int leftInUpper(int pascals) {
        SettleLayers x = Made.ground(1, 1, 10, 10, 0);
        x.layer(1, 300, 10, 10, 0);
        x.drains(false, true, 0);
        x.load(0, pascals);
        x.run(1);
        return x.told(0, 0);
    }

    private static void goesDownCutOff() {
        CHECK.same("a difference of 999", leftInUpper(1002), 1002);
        CHECK.same("a difference of 1,000", leftInUpper(1003), 1002);
    }

    private static int leftInLower(int pascals) {
        SettleLayers x = Made.ground(1, 300, 10, 10, 0);
        x.layer(1, 1, 10, 10, 0);
        x.load(0, pascals);
        x.run(1);
        return x.told(1, 0);
    }

    private static void goesUpCutOffTowardsZero() {
        CHECK.same("a difference of -300", leftInLower(4), 4);
        CHECK.same("a difference of -999", leftInLower(1002), 1002);
        CHECK.same("a difference of -1,000", leftInLower(1003), 1002);
    }

    private static void goesByTheLesserLeak() {
        int[][] leaks = {{200, 30}, {30, 200}, {300, 299}, {1, 300}};
        for (int[] leak : leaks) {
            SettleLayers x = Made.ground(1, leak[0], 1, 1, 0);
            x.layer(1, leak[1], 1, 1, 0);
            x.load(0, 90_000);
            x.run(1);
            int upper = 90_000;
            int lower = 90_000;
            for (int step = 0; step < 24; step++) {
                int above = upper * leak[0] / 1000;
                int down = (upper - lower) * Math.min(leak[0], leak[1]) / 1000;
                upper -= above + down;
                lower += down;
            }
            CHECK.same("upper, leaks " + leak[0] + " and " + leak[1], x.told(0, 0), upper);
            CHECK.same("lower, leaks " + leak[0] + " and " + leak[1], x.told(1, 0), lower);
        }
    }

    private static void leakZeroLetsNothingThrough() {
        SettleLayers x = Made.ground(1, 300, 1, 1, 0);
        x.layer(1, 0, 1, 1, 0);
        x.layer(1, 300, 1, 1, 0);
        x.drains(true, true, 0);
        x.load(0, 200_000);
        x.run(60);
        CHECK.same("above it", x.told(0, 0), 3);
        CHECK.same("in it", x.told(1, 0), 200_000);
        CHECK.same("below it", x.told(2, 0), 3);
    }

    private static void leakAndDrainAtTheirMost() {
        SettleLayers x = loaded(300, 200_000);
        x.drains(true, true, 200);
        x.run(60);
        CHECK.same("what stays", x.told(0, 0), 2);
        CHECK.same("what is out", x.out(), 199_998);
    }

    private static void goesFromWhatThereIsBefore() {
        SettleLayers one = loaded(300, 10);
        one.drains(true, true, 200);
        one.run(1);
        CHECK.same("3 and 3 and 2 of 10", one.told(0, 0), 2);
        SettleLayers x = Made.ground(3, 200, 1, 1, 0);
        x.drains(true, true, 10);
        x.load(0, 12_345);
        x.run(1);
        int[] p = {12_345, 12_345, 12_345};
        long out = 0;
        for (int step = 0; step < 24; step++) {
            int above = p[0] * 200 / 1000;
            int first = (p[0] - p[1]) * 200 / 1000;
            int second = (p[1] - p[2]) * 200 / 1000;
            int below = p[2] * 200 / 1000;
            int[] drained = {p[0] * 10 / 1000, p[1] * 10 / 1000, p[2] * 10 / 1000};
            p[0] += -above - first - drained[0];
            p[1] += first - second - drained[1];
            p[2] += second - below - drained[2];
            out += above + below + drained[0] + drained[1] + drained[2];
        }
        for (int cell = 0; cell < 3; cell++) {
            CHECK.same("pressure of cell " + cell, x.told(cell, 0), p[cell]);
        }
        CHECK.same("out", x.out(), out);
    }

    private static SettleLayers thirty(boolean above) {
        SettleLayers x = Made.greatest();
        x.drains(above, !above, 0);
        x.run(20);
        return x;
    }

    private static void goesThroughThirtyCells() {
        SettleLayers up = thirty(true);
        SettleLayers down = thirty(false);
        for (int cell = 0; cell < 30; cell++) {
            CHECK.same("alike both ways, cell " + cell, up.told(cell, 0), down.told(29 - cell, 0));
            CHECK.holds("more pressure farther in, cell " + cell, cell == 0 || up.told(cell, 0) > up.told(cell - 1, 0));
        }
        CHECK.holds("the last one has given water too", up.told(29, 0) < 2_400_000);
    }

    private static SettleLayers onPast(int pascals) {
        SettleLayers x = Made.ground(1, 300, 7, 1000, 5000);
        x.load(0, pascals);
        x.run(2);
        return x;
    }

    private static void sinksByHardUpToItsPast() {
        SettleLayers x = onPast(5003);
        CHECK.same("it carries as much as its past", x.told(0, 1), 5000);
        CHECK.same("by hard alone", x.sunk(0), 35);
        CHECK.same("its past stays", x.told(0, 2), 5000);
    }

    private static void sinksBySoftBeyondItsPast() {
        SettleLayers one = onPast(5004);
        CHECK.same("it carries a pascal more", one.told(0, 1), 5001);
        CHECK.same("by soft for that", one.sunk(0), 36);
        SettleLayers x = onPast(9003);
        CHECK.same("it carries 4,000 more", x.told(0, 1), 9000);
        CHECK.same("by soft for those", x.sunk(0), 4035);
    }

    private static void pastOfZero() {
        SettleLayers x = Made.ground(1, 300, 7, 90, 0);
        x.load(0, 1003);
        x.run(2);
        CHECK.same("by soft from the first pascal on", x.sunk(0), 90);
    }

    private static void pastOfAMillion() {
        SettleLayers x = Made.ground(1, 300, 7, 1000, 1_000_000);
        for (int day = 0; day < 5; day++) {
            x.load(day, 200_000);
        }
        x.run(10);
        CHECK.same("by hard up to it", x.sunk(0), 999_997 * 7 / 1000);
        CHECK.same("its past stays", x.told(0, 2), 1_000_000);
        x.load(10, 200_000);
        x.run(10);
        CHECK.same("it carries more", x.told(0, 1), 1_199_997);
        CHECK.same("by soft beyond it", x.sunk(0), 7000 + 199_997);
        CHECK.same("its past is that", x.told(0, 2), 1_199_997);
    }

    private static void pastBecomesWhatItCarries() {
        CHECK.same("not if that is less", onPast(4999).told(0, 2), 5000);
        CHECK.same("if that is more", onPast(5004).told(0, 2), 5001);
        CHECK.same("if that is much more", onPast(200_000).told(0, 2), 199_997);
    }

    private static void eachCellHasItsPast() {
        SettleLayers x = Made.ground(3, 50, 7, 90, 300);
        x.load(0, 5000);
        x.run(1);
        for (int cell = 0; cell < 3; cell++) {
            CHECK.same("past of cell " + cell, x.told(cell, 2), Math.max(300, x.told(cell, 1)));
        }
        CHECK.holds("they differ", x.told(0, 2) > x.told(1, 2) && x.told(1, 2) > x.told(2, 2));
    }

    /** The upper cell gives off water; closed, it takes some from the lower one, and so carries less. */
    private static SettleLayers comeUp() {
        SettleLayers x = Made.ground(1, 300, 100, 900, 0);
        x.layer(1, 10, 0, 0, 0);
        x.load(0, 200_000);
        x.run(1);
        x.drains(false, false, 0);
        return x;
    }

    private static void comesUpByHard() {
        SettleLayers x = comeUp();
        long carried = x.told(0, 1);
        CHECK.same("sunk by soft alone", x.sunk(0), carried * 900 / 1000);
        x.run(60);
        long then = x.told(0, 1);
        CHECK.holds("it carries less", then < carried - 1000);
        CHECK.same("its past stays", x.told(0, 2), carried);
        CHECK.same("it came up", x.sunk(0), (carried * 900 - (carried - then) * 100) / 1000);
    }

    private static void sinksAgainByHardUpToItsPast() {
        SettleLayers x = comeUp();
        long past = x.told(0, 1);
        x.run(60);
        long low = x.told(0, 1);
        x.drains(false, false, 1);
        int days = 0;
        while (days < 60 && x.told(0, 1) < low + 1000) {
            x.run(1);
            days++;
        }
        long then = x.told(0, 1);
        CHECK.holds("it carries more again, less than its past", then > low && then < past);
        CHECK.same("by hard", x.sunk(0), (past * 900 - (past - then) * 100) / 1000);
        x.drains(true, false, 0);
        x.run(60);
        CHECK.holds("it carries more than ever", x.told(0, 1) > past);
        CHECK.same("by soft beyond its past", x.sunk(0), x.told(0, 1) * 900L / 1000);
    }

    /**
     * Closed, the middle cell first gives water to the empty upper one, then takes more from the lower one: what it
     * carries is most in the middle of the day, and its past keeps that.
     */
    private static void sinksInEachStep() {
        SettleLayers x = Made.ground(1, 300, 0, 0, 0);
        x.layer(1, 80, 100, 900, 0);
        x.layer(1, 11, 0, 0, 0);
        x.load(0, 100_000);
        x.run(1);
        x.drains(false, false, 0);
        long[] p = {x.told(0, 0), x.told(1, 0), x.told(2, 0)};
        long past = x.told(1, 2);
        long before = past;
        for (int step = 0; step < 24; step++) {
            long up = (p[0] - p[1]) * 80 / 1000;
            long down = (p[1] - p[2]) * 11 / 1000;
            p[0] -= up;
            p[1] += up - down;
            p[2] += down;
            past = Math.max(past, 100_000 - p[1]);
        }
        x.run(1);
        long carried = x.told(1, 1);
        CHECK.holds("it carried most in the middle of the day", past > before + 1000 && past > carried + 1000);
        CHECK.same("its past", x.told(1, 2), past);
        CHECK.same("sunk", x.sunk(1), (past * 900 - (past - carried) * 100) / 1000);
    }

    private static void hardAndSoftOfZero() {
        SettleLayers stiff = Made.ground(1, 300, 0, 0, 0);
        stiff.load(0, 200_000);
        stiff.run(2);
        CHECK.same("it carries", stiff.told(0, 1), 199_997);
        CHECK.same("it doesn't sink", stiff.sunk(0), 0);
        SettleLayers hard = Made.ground(1, 300, 0, 1000, 1000);
        hard.load(0, 1013);
        hard.run(2);
        CHECK.same("by soft alone", hard.sunk(0), 10);
    }

    private static void unitsAreThousandthsOfAMicrometre() {
        SettleLayers x = Made.ground(1, 300, 1, 1, 0);
        x.load(0, 1002);
        x.run(2);
        CHECK.same("999 units", x.sunk(0), 0);
        x.load(2, 1);
        x.run(1);
        CHECK.same("1,000 units", x.sunk(0), 1);
        CHECK.same("it carries", x.told(0, 1), 1000);
    }
}
