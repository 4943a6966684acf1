/**
 * Promise 14: "A reading of micrometres (0 .. 10^12) on a day, above that of the last one, up to 400: how many there
 * are. BAD: none such; there are 20."
 */
public final class ReadTest {
    private static final Check CHECK = new Check("ReadTest");
    private static final Twins BUSY = new Twins(CHECK, Made::busy);
    private static final int BAD = SettleLayers.BAD;
    private static final long MOST = 1_000_000_000_000L;

    public static void main(String[] args) {
        howManyThereAre();
        micrometresUpTo10To12();
        noSuchMicrometres();
        firstDay();
        daysUpTo400();
        aboveTheLastDay();
        refusedTakesNoDay();
        thereAreTwenty();
        daysGoneByAndToCome();
        CHECK.finish();
    }

    private static void howManyThereAre() {
        SettleLayers x = new SettleLayers();
        CHECK.same("the first", x.read(2, 7), 1);
        CHECK.same("the second", x.read(5, 7), 2);
        CHECK.same("one that is none", x.read(5, 7), BAD);
        CHECK.same("the third, with less", x.read(6, 0), 3);
        CHECK.same("readings", x.count(4), 3);
    }

    private static void micrometresUpTo10To12() {
        CHECK.same("0", new SettleLayers().read(0, 0), 1);
        CHECK.same("10^12", new SettleLayers().read(0, MOST), 1);
        CHECK.same("it is kept whole", Made.readings(0, MOST).off(MOST - 1), 1);
        CHECK.same("and no more", Made.readings(0, MOST).off(MOST), 0);
    }

    private static void noSuchMicrometres() {
        for (long v : new long[] {-1, MOST + 1, Long.MIN_VALUE, Long.MAX_VALUE}) {
            BUSY.refuse("read(5, " + v + ")", x -> x.read(5, v));
        }
    }

    private static void firstDay() {
        CHECK.same("day 0", new SettleLayers().read(0, 5), 1);
        CHECK.same("day 400", new SettleLayers().read(400, 5), 1);
        for (int day : new int[] {-1, 401, Integer.MIN_VALUE, Integer.MAX_VALUE}) {
            new Twins(CHECK, SettleLayers::new).refuse("day " + day, x -> x.read(day, 5));
        }
    }

    private static void daysUpTo400() {
        CHECK.same("day 400", Made.busy().read(400, 5), 3);
        for (int day : new int[] {401, Integer.MAX_VALUE}) {
            BUSY.refuse("day " + day, x -> x.read(day, 5));
        }
        SettleLayers x = Made.readings(400, 5);
        CHECK.same("none after day 400", x.read(401, 5), BAD);
        CHECK.same("none on it again", x.read(400, 5), BAD);
        CHECK.same("none before it", x.read(399, 5), BAD);
    }

    private static void aboveTheLastDay() {
        CHECK.same("the next day", Made.busy().read(5, 5), 3);
        for (int day : new int[] {4, 3, 2, 1, 0, -1, Integer.MIN_VALUE}) {
            BUSY.refuse("day " + day + ", the last is 4", x -> x.read(day, 5));
        }
    }

    private static void refusedTakesNoDay() {
        SettleLayers x = new SettleLayers();
        x.read(9, -1);
        CHECK.same("a day before the refused one", x.read(3, 5), 1);
        x.read(401, 5);
        CHECK.same("the next day", x.read(4, 5), 2);
    }

    private static SettleLayers twenty() {
        SettleLayers x = Made.ground(1, 1, 1, 1, 1);
        for (int i = 1; i <= 20; i++) {
            CHECK.same("reading " + i, x.read(i, i), i);
        }
        return x;
    }

    private static void thereAreTwenty() {
        new Twins(CHECK, ReadTest::twenty).refuse("reading 21", x -> x.read(21, 21));
        SettleLayers x = twenty();
        x.read(21, 21);
        CHECK.same("readings", x.count(4), 20);
        CHECK.same("by the first and the last of them", x.foretold(2), 20 + 100);
        x.run(60);
        CHECK.same("by more than 7 from 0", x.off(7), 13);
        CHECK.same("reading 21 when they have gone by", x.read(60, 21), BAD);
    }

    private static void daysGoneByAndToCome() {
        SettleLayers x = Made.onDay(10);
        CHECK.same("a day that has gone by", x.read(3, 5), 1);
        CHECK.same("now's day", x.read(10, 5), 2);
        CHECK.same("a day to come", x.read(200, 5), 3);
        CHECK.same("on day 400", Made.onDay(400).read(400, 5), 1);
    }
}
