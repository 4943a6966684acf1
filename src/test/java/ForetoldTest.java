/**
 * Promise 15: "What the last readings foretell, micrometres, cut off towards 0. Rule 0, by the last three a, b, c:
 * (b b - a c) by (2 b - a - c). Rule 1, by the last two a on day s, b on day t: (t - s) a b by (t a - s b). Rule 2, by
 * the first and the last one: the last, and the difference of both times 100 by that of their days. BAD: no such rule,
 * not so many readings, something is divided by 0, or a value is above 100,000,000 (of the readings that are used)."
 */
public final class ForetoldTest {
    private static final Check CHECK = new Check("ForetoldTest");
    private static final int BAD = SettleLayers.BAD;
    private static final long MOST = 100_000_000L;
    private static final long MORE = MOST + 1;

    public static void main(String[] args) {
        byTheLastThree();
        byTheLastThreeCutOffTowardsZero();
        byTheLastTwo();
        byTheLastTwoCutOffTowardsZero();
        byTheFirstAndTheLast();
        byTheFirstAndTheLastCutOff();
        noSuchRule();
        notThreeReadings();
        notTwoReadings();
        lastThreeDividedByZero();
        lastTwoDividedByZero();
        valuesOf100Million();
        valuesAbove100Million();
        greatValuesThatAreNotUsed();
        greatNumbersDoNotWrapAround();
        asksOnly();
        CHECK.finish();
    }

    private static void foretell(int rule, long due, long... daysAndValues) {
        String call = "foretold(" + rule + ") of " + java.util.Arrays.toString(daysAndValues);
        CHECK.same(call, Made.readings(daysAndValues).foretold(rule), due);
    }

    private static void byTheLastThree() {
        foretell(0, 2000, 0, 0, 10, 1000, 20, 1500);
        // The one before them doesn't count, nor do the days.
        foretell(0, 2000, 0, 7, 1, 0, 10, 1000, 20, 1500);
        foretell(0, 2000, 3, 0, 4, 1000, 400, 1500);
        foretell(0, 0, 0, 5, 1, 0, 2, 0);
    }

    private static void byTheLastThreeCutOffTowardsZero() {
        // 58 by 7, 21 by 5, -6 by -7, 1 by -3, 100 by -80, 2,300 by -20, -15 by -8
        foretell(0, 8, 0, 6, 1, 10, 2, 7);
        foretell(0, 4, 0, 1, 1, 5, 2, 4);
        foretell(0, 0, 0, 1, 1, 2, 2, 10);
        foretell(0, 0, 0, 1, 1, 3, 2, 8);
        foretell(0, -1, 0, 10, 1, 40, 2, 150);
        foretell(0, -115, 0, 10, 1, 60, 2, 130);
        foretell(0, 1, 0, 3, 1, 0, 2, 5);
    }

    private static void byTheLastTwo() {
        foretell(1, 3000, 10, 1000, 20, 1500);
        // The one before them doesn't count.
        foretell(1, 3000, 0, 7, 10, 1000, 20, 1500);
        foretell(1, 5, 0, 8, 3, 5);
        foretell(1, 0, 1, 0, 3, 5);
    }

    private static void byTheLastTwoCutOffTowardsZero() {
        // 70 by 8, 40 by -1, 90 by -5, 25 by -11
        foretell(1, 8, 1, 5, 3, 7);
        foretell(1, -40, 2, 5, 3, 8);
        foretell(1, -18, 2, 3, 5, 10);
        foretell(1, -2, 4, 1, 9, 5);
    }

    private static void byTheFirstAndTheLast() {
        foretell(2, 9000, 0, 0, 10, 1000, 20, 1500);
        foretell(2, 1170, 10, 100, 17, 170);
        foretell(2, -50, 0, 500, 10, 450);
        foretell(2, 7, 3, 7, 4, 900, 5, 7);
        foretell(2, 125, 0, 0, 400, 100);
    }

    private static void byTheFirstAndTheLastCutOff() {
        foretell(2, 4492, 0, 0, 70, 1850);
        // The quotient is cut off towards 0: -33.3 from 100, and from 10.
        foretell(2, 67, 0, 101, 3, 100);
        foretell(2, -23, 0, 11, 3, 10);
    }

    private static void noSuchRule() {
        for (int rule : new int[] {-1, 3, Integer.MIN_VALUE, Integer.MAX_VALUE}) {
            foretell(rule, BAD, 10, 1000, 20, 1500, 30, 1700);
            foretell(rule, BAD);
        }
    }

    private static void notThreeReadings() {
        foretell(0, BAD);
        foretell(0, BAD, 5, 10);
        foretell(0, BAD, 5, 10, 6, 30);
        foretell(0, 550 / 15, 5, 10, 6, 30, 7, 35);
    }

    private static void notTwoReadings() {
        foretell(1, BAD);
        foretell(2, BAD);
        foretell(1, BAD, 5, 10);
        foretell(2, BAD, 5, 10);
        foretell(1, 300 / -90, 5, 10, 6, 30);
        foretell(2, 2030, 5, 10, 6, 30);
    }

    private static void lastThreeDividedByZero() {
        foretell(0, BAD, 0, 1, 1, 2, 2, 3);
        foretell(0, BAD, 0, 3, 1, 2, 2, 1);
        foretell(0, BAD, 0, 0, 1, 0, 2, 0);
        foretell(0, BAD, 0, 1850, 1, 1850, 2, 1850);
        foretell(0, BAD, 0, 0, 1, MOST / 2, 2, MOST);
    }

    private static void lastTwoDividedByZero() {
        foretell(1, BAD, 2, 4, 3, 6);
        foretell(1, BAD, 0, 0, 10, 1000);
        foretell(1, BAD, 7, 0, 10, 0);
        foretell(1, BAD, 200, MOST / 2, 400, MOST);
    }

    private static void valuesOf100Million() {
        foretell(0, MOST, 0, 0, 1, MOST, 2, MOST);
        foretell(0, MOST / 2, 0, MOST, 1, 0, 2, MOST);
        foretell(1, MOST, 0, MOST, 400, MOST);
        foretell(2, 101 * MOST, 0, 0, 1, MOST);
        foretell(2, -100 * MOST, 0, MOST, 1, 0);
    }

    private static void valuesAbove100Million() {
        foretell(0, BAD, 0, MORE, 1, 5, 2, 6);
        foretell(0, BAD, 0, 4, 1, MORE, 2, 6);
        foretell(0, BAD, 0, 4, 1, 5, 2, MORE);
        foretell(1, BAD, 1, MORE, 2, 6);
        foretell(1, BAD, 1, 6, 2, MORE);
        foretell(2, BAD, 1, MORE, 2, 6, 3, 7);
        foretell(2, BAD, 1, 6, 2, 6, 3, MORE);
        long most = 1_000_000_000_000L;
        for (int rule = 0; rule <= 2; rule++) {
            foretell(rule, BAD, 1, most, 2, most - 5, 3, most - 7);
        }
    }

    private static void greatValuesThatAreNotUsed() {
        foretell(0, 8, 0, MORE, 1, 0, 2, 4, 3, 6);
        foretell(1, 3000, 1, MORE, 10, 1000, 20, 1500);
        foretell(2, 108, 1, 6, 2, MORE, 3, 8);
    }

    private static void greatNumbersDoNotWrapAround() {
        long half = MOST / 2;
        foretell(0, half * half, 0, MOST - 1, 1, half, 2, 0);
        foretell(0, MOST - half * half, 0, MOST, 1, half, 2, 1);
        foretell(1, MOST, 1, MOST, 400, MOST);
        foretell(1, half * (MOST - 1), 1, half, 2, MOST - 1);
    }

    private static void asksOnly() {
        for (int rule = -1; rule <= 3; rule++) {
            int asked = rule;
            new Twins(CHECK, Made::busy).leave("foretold(" + rule + ")", x -> x.foretold(asked));
        }
    }
}
