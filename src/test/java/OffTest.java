/**
 * Promise 16: "How many readings of days that have gone by (up to now's beginning) differ by more than so many
 * micrometres from what had sunk at their beginning. BAD: below 0."
 */
public final class OffTest {
    private static final Check CHECK = new Check("OffTest");
    private static final int BAD = SettleLayers.BAD;

    public static void main(String[] args) {
        noReadings();
        upToNowsBeginning();
        upToDay400();
        byMoreThanSoMany();
        aboveAndBelow();
        atTheBeginningOfTheirDay();
        readLaterOrSooner();
        cutOffAsSunkIs();
        withoutLayers();
        limitOfZero();
        limitBelowZero();
        greatestLimit();
        asksOnly();
        CHECK.finish();
    }

    private static SettleLayers sinking() {
        SettleLayers x = Made.ground(2, 50, 90, 90, 0);
        x.load(1, 50_000);
        return x;
    }

    /** What sunk(-1) answers at the beginning of each day. */
    private static long[] sunkByDay() {
        SettleLayers x = sinking();
        long[] sunk = new long[10];
        for (int day = 0; day < 10; day++) {
            sunk[day] = x.sunk(-1);
            x.run(1);
        }
        return sunk;
    }

    private static void noReadings() {
        CHECK.same("new", new SettleLayers().off(0), 0);
        CHECK.same("on day 9", Made.onDay(9).off(0), 0);
    }

    private static void upToNowsBeginning() {
        SettleLayers x = sinking();
        x.read(0, 5);
        x.read(2, 1_000_000);
        x.read(3, 1_000_000);
        CHECK.same("on day 0", x.off(0), 1);
        x.run(1);
        CHECK.same("on day 1", x.off(0), 1);
        x.run(1);
        CHECK.same("on day 2", x.off(0), 2);
        x.run(1);
        CHECK.same("on day 3", x.off(0), 3);
    }

    private static void upToDay400() {
        SettleLayers x = Made.onDay(399);
        x.read(399, 5);
        x.read(400, 5);
        CHECK.same("on day 399", x.off(0), 1);
        x.run(1);
        CHECK.same("on day 400", x.off(0), 2);
    }

    private static void byMoreThanSoMany() {
        SettleLayers x = Made.readings(0, 5);
        CHECK.same("5 is more than 4", x.off(4), 1);
        CHECK.same("5 is not more than 5", x.off(5), 0);
        CHECK.same("5 is not more than 6", x.off(6), 0);
    }

    private static void aboveAndBelow() {
        long[] sunk = sunkByDay();
        SettleLayers x = sinking();
        x.read(0, 0);
        x.read(2, sunk[2] + 3);
        x.read(3, sunk[3] - 3);
        x.read(5, sunk[5] + 4);
        x.read(6, sunk[6] - 4);
        x.run(9);
        CHECK.same("by more than 0", x.off(0), 4);
        CHECK.same("by more than 2", x.off(2), 4);
        CHECK.same("by more than 3", x.off(3), 2);
        CHECK.same("by more than 4", x.off(4), 0);
    }

    private static void atTheBeginningOfTheirDay() {
        long[] sunk = sunkByDay();
        CHECK.holds("it sinks day by day", sunk[1] == 0 && sunk[2] > 100 && sunk[3] > sunk[2] + 100);
        SettleLayers x = sinking();
        for (int day = 0; day < 10; day++) {
            x.read(day, sunk[day]);
        }
        x.run(9);
        CHECK.same("as it had sunk then", x.off(0), 0);
        x.run(60);
        CHECK.same("also long after", x.off(0), 0);
    }

    private static void readLaterOrSooner() {
        long[] sunk = sunkByDay();
        SettleLayers x = sinking();
        x.read(2, sunk[2]);
        x.run(9);
        x.read(3, sunk[3]);
        x.read(4, sunk[4] + 1);
        CHECK.same("told before and after their day", x.off(0), 1);
    }

    /** 997 times 10 units are 9.97 micrometres, of which sunk(-1) answers 9. */
    private static void cutOffAsSunkIs() {
        SettleLayers x = Made.ground(1, 300, 10, 10, 0);
        x.load(0, 1000);
        x.read(2, 9);
        x.read(3, 10);
        x.run(4);
        CHECK.same("what sunk(-1) answers", x.sunk(-1), 9);
        CHECK.same("10 differs from it, 9 does not", x.off(0), 1);
        CHECK.same("not by more than 1", x.off(1), 0);
    }

    private static void withoutLayers() {
        SettleLayers x = Made.readings(0, 3, 1, 3);
        CHECK.same("nothing has sunk on day 0", x.off(2), 1);
        x.layer(1, 1, 1, 1, 1);
        CHECK.same("layers change nothing of it", x.off(2), 1);
    }

    private static void limitOfZero() {
        CHECK.same("as much", Made.readings(0, 0).off(0), 0);
        CHECK.same("one more", Made.readings(0, 1).off(0), 1);
    }

    private static void limitBelowZero() {
        for (long limit : new long[] {-1, -1_000_000_000_000L, Long.MIN_VALUE}) {
            new Twins(CHECK, Made::busy).refuse("off(" + limit + ")", x -> x.off(limit));
            CHECK.same("off(" + limit + ") of no readings", new SettleLayers().off(limit), BAD);
        }
    }

    private static void greatestLimit() {
        SettleLayers x = Made.readings(0, 1_000_000_000_000L);
        CHECK.same("10^12 - 1", x.off(999_999_999_999L), 1);
        CHECK.same("10^12", x.off(1_000_000_000_000L), 0);
        CHECK.same("a limit no int can hold", x.off(1L << 32), 1);
        CHECK.same("the greatest long", x.off(Long.MAX_VALUE), 0);
    }

    private static void asksOnly() {
        new Twins(CHECK, Made::busy).leave("off(0)", x -> x.off(0));
    }
}
