/** Promises 14 (read), 15 (foretold) and 16 (off). */
public final class ReadingsTest {
    private static final Check CHECK = new Check("ReadingsTest");
    private static final int BAD = SettleLayers.BAD;

    public static void main(String[] args) {
        readNumbers();
        readRefusesTheTwentyFirst();
        foretoldByLastThree();
        foretoldByLastTwo();
        foretoldByFirstAndLast();
        foretoldNeedsReadings();
        foretoldUsesValuesUpTo100Million();
        offCountsDaysGoneBy();
        offComparesWithTheBeginningOfTheDay();
        offNumbers();
        CHECK.finish();
    }

    private static SettleLayers with(long... daysAndValues) {
        SettleLayers x = new SettleLayers();
        for (int i = 0; i + 1 < daysAndValues.length; i += 2) {
            int day = (int) daysAndValues[i];
            CHECK.same("read(" + day + ", " + daysAndValues[i + 1] + ")", x.read(day, daysAndValues[i + 1]), i / 2 + 1);
        }
        return x;
    }

    private static void readNumbers() {
        SettleLayers x = new SettleLayers();
        CHECK.same("read(-1, 0)", x.read(-1, 0), BAD);
        CHECK.same("read(401, 0)", x.read(401, 0), BAD);
        CHECK.same("read(0, -1)", x.read(0, -1), BAD);
        CHECK.same("read(0, 10^12 + 1)", x.read(0, 1_000_000_000_001L), BAD);
        CHECK.same("read, least day", x.read(Integer.MIN_VALUE, 0), BAD);
        CHECK.same("read, greatest day", x.read(Integer.MAX_VALUE, 0), BAD);
        CHECK.same("read, least value", x.read(0, Long.MIN_VALUE), BAD);
        CHECK.same("read, greatest value", x.read(0, Long.MAX_VALUE), BAD);
        CHECK.same("none of these is a reading", x.count(4), 0);
        CHECK.same("read(0, 0)", x.read(0, 0), 1);
        CHECK.same("the same day again", x.read(0, 1), BAD);
        CHECK.same("read(5, 10^12)", x.read(5, 1_000_000_000_000L), 2);
        CHECK.same("a day before", x.read(4, 1), BAD);
        CHECK.same("the same day", x.read(5, 1), BAD);
        CHECK.same("less on the next day", x.read(6, 0), 3);
        CHECK.same("read(400, 1)", x.read(400, 1), 4);
        CHECK.same("no day after 400", x.read(401, 1), BAD);
        CHECK.same("readings", x.count(4), 4);
    }

    private static void readRefusesTheTwentyFirst() {
        SettleLayers x = new SettleLayers();
        for (int i = 1; i <= 20; i++) {
            CHECK.same("reading " + i, x.read(i, i), i);
        }
        CHECK.same("reading 21", x.read(21, 21), BAD);
        CHECK.same("readings", x.count(4), 20);
        CHECK.same("by the first and the last of them", x.foretold(2), 20 + 100);
        CHECK.same("none of them of a day that has begun", x.off(0), 0);
        x.layer(1, 1, 1, 1, 1);
        x.run(60);
        CHECK.same("by more than 7 from 0", x.off(7), 13);
    }

    private static void foretoldByLastThree() {
        CHECK.same("0, 1000, 1500", with(0, 0, 10, 1000, 20, 1500).foretold(0), 2000);
        CHECK.same("the last three count", with(0, 7, 1, 0, 10, 1000, 20, 1500).foretold(0), 2000);
        CHECK.same("days do not count", with(3, 0, 4, 1000, 400, 1500).foretold(0), 2000);
        // (100 - 42) by (20 - 6 - 7)
        CHECK.same("cut off", with(0, 6, 1, 10, 2, 7).foretold(0), 8);
        // (4 - 10) by (4 - 1 - 10)
        CHECK.same("cut off above 0", with(0, 1, 1, 2, 2, 10).foretold(0), 0);
        // (9 - 8) by (6 - 1 - 8)
        CHECK.same("cut off below 0", with(0, 1, 1, 3, 2, 8).foretold(0), 0);
        // (25 - 4) by (10 - 1 - 4), (1600 - 1500) by (80 - 10 - 150)
        CHECK.same("21 by 5", with(0, 1, 1, 5, 2, 4).foretold(0), 4);
        CHECK.same("100 by -80", with(0, 10, 1, 40, 2, 150).foretold(0), -1);
        // (3600 - 1300) by (120 - 10 - 130)
        CHECK.same("2300 by -20", with(0, 10, 1, 60, 2, 130).foretold(0), -115);
        CHECK.same("divided by 0", with(0, 1, 1, 2, 2, 3).foretold(0), BAD);
        long most = 100_000_000L;
        CHECK.same("greatest values", with(0, 0, 1, most, 2, most).foretold(0), most);
    }

    private static void foretoldByLastTwo() {
        CHECK.same("1000 on 10, 1500 on 20", with(10, 1000, 20, 1500).foretold(1), 3000);
        CHECK.same("the last two count", with(0, 7, 10, 1000, 20, 1500).foretold(1), 3000);
        // (3 - 1) 5 7 by (15 - 7)
        CHECK.same("cut off", with(1, 5, 3, 7).foretold(1), 8);
        // (3 - 2) 5 8 by (15 - 16), (5 - 2) 3 10 by (15 - 20)
        CHECK.same("below 0", with(2, 5, 3, 8).foretold(1), -40);
        CHECK.same("below 0 too", with(2, 3, 5, 10).foretold(1), -18);
        // (9 - 4) 1 5 by (9 - 20)
        CHECK.same("cut off towards 0", with(4, 1, 9, 5).foretold(1), -2);
        CHECK.same("divided by 0", with(2, 4, 3, 6).foretold(1), BAD);
        CHECK.same("0 on day 0", with(0, 0, 10, 1000).foretold(1), BAD);
        long most = 100_000_000L;
        CHECK.same("greatest numbers", with(0, most, 400, most).foretold(1), most);
    }

    private static void foretoldByFirstAndLast() {
        CHECK.same("0 to 1500 in 20 days", with(0, 0, 10, 1000, 20, 1500).foretold(2), 9000);
        CHECK.same("the days between", with(10, 100, 17, 170).foretold(2), 1170);
        CHECK.same("cut off", with(0, 0, 70, 1850).foretold(2), 4492);
        CHECK.same("falling", with(0, 500, 10, 450).foretold(2), -50);
        CHECK.same("falling, the quotient is cut off", with(0, 101, 3, 100).foretold(2), 67);
        CHECK.same("falling below 0", with(0, 11, 3, 10).foretold(2), -23);
        long most = 100_000_000L;
        CHECK.same("greatest rise", with(0, 0, 1, most).foretold(2), 101 * most);
    }

    private static void foretoldNeedsReadings() {
        SettleLayers x = new SettleLayers();
        for (int rule = -1; rule <= 3; rule++) {
            CHECK.same("no readings, rule " + rule, x.foretold(rule), BAD);
        }
        x.read(5, 10);
        for (int rule = -1; rule <= 3; rule++) {
            CHECK.same("one reading, rule " + rule, x.foretold(rule), BAD);
        }
        x.read(6, 30);
        CHECK.same("two readings, rule 0", x.foretold(0), BAD);
        CHECK.same("two readings, rule 1", x.foretold(1), 1 * 10 * 30 / (60 - 150));
        CHECK.same("two readings, rule 2", x.foretold(2), 30 + 2000);
        x.read(7, 35);
        CHECK.same("three readings, rule 0", x.foretold(0), (900 - 350) / (60 - 45));
        for (int rule : new int[] {-1, 3, Integer.MIN_VALUE, Integer.MAX_VALUE}) {
            CHECK.same("no such rule " + rule, x.foretold(rule), BAD);
        }
    }

    private static void foretoldUsesValuesUpTo100Million() {
        long most = 100_000_000L;
        long more = most + 1;
        CHECK.same("rule 0, a too great", with(0, more, 1, 5, 2, 6).foretold(0), BAD);
        CHECK.same("rule 0, b too great", with(0, 4, 1, more, 2, 6).foretold(0), BAD);
        CHECK.same("rule 0, c too great", with(0, 4, 1, 5, 2, more).foretold(0), BAD);
        CHECK.same("rule 0, another too great", with(0, more, 1, 0, 2, 4, 3, 6).foretold(0), 8);
        CHECK.same("rule 1, a too great", with(1, more, 2, 6).foretold(1), BAD);
        CHECK.same("rule 1, b too great", with(1, 6, 2, more).foretold(1), BAD);
        CHECK.same("rule 1, another too great", with(1, more, 10, 1000, 20, 1500).foretold(1), 3000);
        CHECK.same("rule 2, first too great", with(1, more, 2, 6, 3, 7).foretold(2), BAD);
        CHECK.same("rule 2, last too great", with(1, 6, 2, 6, 3, more).foretold(2), BAD);
        CHECK.same("rule 2, another too great", with(1, 6, 2, more, 3, 8).foretold(2), 108);
    }

    private static SettleLayers sinking() {
        SettleLayers x = new SettleLayers();
        x.layer(2, 50, 90, 90, 0);
        x.load(1, 50_000);
        return x;
    }

    private static void offCountsDaysGoneBy() {
        SettleLayers x = sinking();
        x.read(0, 5);
        x.read(2, 1_000_000);
        x.read(3, 1_000_000);
        CHECK.same("day 0 has begun", x.off(0), 1);
        CHECK.same("by 5, not by more", x.off(5), 0);
        x.run(1);
        CHECK.same("on day 1", x.off(0), 1);
        x.run(1);
        CHECK.same("on day 2", x.off(0), 2);
        x.run(1);
        CHECK.same("on day 3", x.off(0), 3);
    }

    private static void offComparesWithTheBeginningOfTheDay() {
        SettleLayers x = sinking();
        long[] sunk = new long[10];
        for (int day = 1; day < 10; day++) {
            x.run(1);
            sunk[day] = x.sunk(-1);
        }
        CHECK.holds("it sinks day by day", sunk[1] == 0 && sunk[2] > 100 && sunk[3] > sunk[2] + 100);
        for (int day = 0; day < 10; day++) {
            x.read(day, sunk[day]);
        }
        CHECK.same("as read", x.off(0), 0);

        SettleLayers near = sinking();
        near.read(0, 0);
        near.read(2, sunk[2] + 3);
        near.read(3, sunk[3] - 3);
        near.read(5, sunk[5] + 4);
        near.run(9);
        CHECK.same("above and below: by more than 2", near.off(2), 3);
        CHECK.same("by more than 3", near.off(3), 1);
        CHECK.same("by more than 4", near.off(4), 0);
    }

    private static void offNumbers() {
        SettleLayers x = new SettleLayers();
        CHECK.same("off(-1)", x.off(-1), BAD);
        CHECK.same("off, least", x.off(Long.MIN_VALUE), BAD);
        x.read(0, 1_000_000_000_000L);
        CHECK.same("without layers nothing has sunk", x.off(0), 1);
        CHECK.same("by 10^12", x.off(1_000_000_000_000L), 0);
        CHECK.same("by 10^12 - 1", x.off(999_999_999_999L), 1);
        CHECK.same("off, greatest", x.off(Long.MAX_VALUE), 0);
    }
}
