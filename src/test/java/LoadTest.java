/**
 * Promise 4: "One more load of 1 .. 200,000 pascals at the beginning of a day, now's or a later one up to 399: how
 * many there are. BAD: none such; there are 12."
 */
public final class LoadTest {
    private static final Check CHECK = new Check("LoadTest");
    private static final Twins BUSY = new Twins(CHECK, Made::busy);
    private static final int BAD = SettleLayers.BAD;

    public static void main(String[] args) {
        howManyThereAre();
        pascalsUpTo200000();
        nowsDay();
        noDayBeforeNow();
        daysUpTo399();
        onDay399();
        onDay400();
        thereAreTwelve();
        thereAreTwelveThatHaveCome();
        withoutLayers();
        atTheBeginningOfTheDay();
        onAllCellsAlike();
        CHECK.finish();
    }

    private static void howManyThereAre() {
        SettleLayers x = Made.onDay(0);
        CHECK.same("the first", x.load(5, 7), 1);
        CHECK.same("the second, on a day before", x.load(2, 7), 2);
        CHECK.same("one that is none", x.load(2, 0), BAD);
        CHECK.same("the third, on the same day", x.load(2, 7), 3);
        x.run(6);
        CHECK.same("the fourth, when the others have come", x.load(6, 7), 4);
        CHECK.same("loads", x.count(2), 4);
    }

    private static void pascalsUpTo200000() {
        CHECK.same("1 pascal", Made.onDay(0).load(0, 1), 1);
        CHECK.same("200,000 pascals", Made.onDay(0).load(0, 200_000), 1);
        for (int pascals : new int[] {0, -1, 200_001, Integer.MIN_VALUE, Integer.MAX_VALUE}) {
            BUSY.refuse("load(5, " + pascals + ")", x -> x.load(5, pascals));
        }
    }

    private static void nowsDay() {
        SettleLayers x = Made.onDay(5);
        CHECK.same("load on day 5", x.load(5, 77), 1);
        x.run(1);
        CHECK.same("it came", x.count(5), 77);
    }

    private static void noDayBeforeNow() {
        for (int day : new int[] {2, 0, -1, Integer.MIN_VALUE}) {
            BUSY.refuse("load on day " + day + ", now's is 3", x -> x.load(day, 5));
        }
        CHECK.same("before day 0", new SettleLayers().load(-1, 5), BAD);
    }

    private static void daysUpTo399() {
        CHECK.same("load on day 399", Made.onDay(0).load(399, 5), 1);
        for (int day : new int[] {400, 401, Integer.MAX_VALUE}) {
            BUSY.refuse("load on day " + day, x -> x.load(day, 5));
        }
    }

    private static void onDay399() {
        SettleLayers x = Made.onDay(399);
        CHECK.same("load on day 398", x.load(398, 5), BAD);
        CHECK.same("load on day 399", x.load(399, 5), 1);
        CHECK.same("load on day 400", x.load(400, 5), BAD);
        x.run(1);
        CHECK.same("it came", x.count(5), 5);
    }

    private static void onDay400() {
        SettleLayers x = Made.onDay(400);
        for (int day : new int[] {0, 399, 400, 401}) {
            CHECK.same("load on day " + day + ", now's is 400", x.load(day, 5), BAD);
        }
        CHECK.same("loads", x.count(2), 0);
    }

    private static SettleLayers twelve() {
        SettleLayers x = Made.onDay(0);
        for (int i = 1; i <= 12; i++) {
            CHECK.same("load " + i, x.load(i, i), i);
        }
        return x;
    }

    private static void thereAreTwelve() {
        new Twins(CHECK, LoadTest::twelve).refuse("load 13", x -> x.load(1, 1));
        SettleLayers x = twelve();
        x.load(1, 1);
        CHECK.same("loads", x.count(2), 12);
        CHECK.same("the end of twelve", x.end(), 78 * 10 / 1000);
    }

    private static void thereAreTwelveThatHaveCome() {
        SettleLayers x = twelve();
        x.run(60);
        CHECK.same("all came", x.count(5), 78);
        CHECK.same("load 13", x.load(70, 1), BAD);
        CHECK.same("loads", x.count(2), 12);
    }

    private static void withoutLayers() {
        SettleLayers x = new SettleLayers();
        CHECK.same("load", x.load(0, 5), 1);
        CHECK.same("it has not come, as no day goes by", x.run(1), BAD);
        CHECK.same("all that came", x.count(5), 0);
    }

    private static void atTheBeginningOfTheDay() {
        SettleLayers x = Made.ground(2, 0, 1, 1, 0);
        x.load(1, 300);
        x.load(1, 40);
        CHECK.same("told", x.told(1, 0), 0);
        x.run(1);
        CHECK.same("before its day", x.told(1, 0), 0);
        x.run(1);
        CHECK.same("when its day has gone by", x.told(1, 0), 340);
        x.run(1);
        CHECK.same("it comes once", x.told(1, 0), 340);
        SettleLayers leaking = Made.ground(1, 1, 1, 1, 0);
        leaking.load(0, 20_000);
        leaking.run(1);
        CHECK.holds("the day's first step has it", leaking.told(0, 0) == leftOf20000());
    }

    private static int leftOf20000() {
        int pressure = 20_000;
        for (int step = 0; step < 24; step++) {
            pressure -= pressure / 1000;
        }
        return pressure;
    }

    private static void onAllCellsAlike() {
        SettleLayers x = Made.ground(2, 0, 1, 1, 0);
        x.layer(1, 0, 1, 1, 0);
        x.load(0, 300);
        x.run(1);
        for (int cell = 0; cell < 3; cell++) {
            CHECK.same("pressure of cell " + cell, x.told(cell, 0), 300);
            CHECK.same("cell " + cell + " carries no more than before", x.told(cell, 1), 0);
        }
    }
}
