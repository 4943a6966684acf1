/**
 * Promise 12: "After how many days more (0 .. 300) that share would be so much (0 .. 1,000) or more for the first
 * time, if they went by so (what is there stays). BAD: none such; it would not; no layers."
 */
public final class UntilTest {
    private static final Check CHECK = new Check("UntilTest");
    private static final int BAD = SettleLayers.BAD;

    public static void main(String[] args) {
        asRunsShow();
        zeroDays();
        threeHundredDays();
        notMoreThan300Days();
        shareUpTo1000();
        noSuchShare();
        soMuchOrMore();
        forTheFirstTime();
        endOfZero();
        itWouldNot();
        noLayers();
        loadsThatComeMeanwhile();
        beyondDay400();
        whatIsThereStays();
        CHECK.finish();
    }

    private static SettleLayers slow() {
        SettleLayers x = Made.ground(4, 20, 3, 9, 10_000);
        x.load(0, 30_000);
        x.load(7, 20_000);
        x.run(2);
        return x;
    }

    private static void asRunsShow() {
        for (int share = 50; share <= 950; share += 50) {
            SettleLayers x = slow();
            int foreseen = x.until(share);
            int days = 0;
            while (days < 200 && x.share() < share) {
                x.run(1);
                days++;
            }
            CHECK.same("until(" + share + ")", foreseen, days);
        }
    }

    private static SettleLayers fast() {
        SettleLayers x = Made.ground(1, 300, 10, 10, 0);
        x.load(0, 1000);
        return x;
    }

    private static void zeroDays() {
        SettleLayers x = fast();
        CHECK.same("share 0 before a day", x.until(0), 0);
        x.run(1);
        CHECK.same("a share that is there", x.until(997), 0);
        CHECK.same("less than is there", x.until(500), 0);
    }

    private static SettleLayers loadedOn(int day) {
        SettleLayers x = Made.ground(1, 300, 10, 10, 0);
        x.load(day, 100_000);
        return x;
    }

    private static void threeHundredDays() {
        CHECK.same("when the 300th day has gone by", loadedOn(299).until(1), 300);
        CHECK.same("a day sooner", loadedOn(298).until(1), 299);
        SettleLayers x = loadedOn(300);
        x.run(1);
        CHECK.same("300 days from day 1 on", x.until(1), 300);
    }

    private static void notMoreThan300Days() {
        CHECK.same("when the 301st day has gone by", loadedOn(300).until(1), BAD);
        CHECK.same("when the 400th day has gone by", loadedOn(399).until(1), BAD);
        CHECK.same("share 0 is there at once", loadedOn(300).until(0), 0);
    }

    private static void shareUpTo1000() {
        CHECK.same("until(0)", fast().until(0), 0);
        CHECK.same("until(1)", fast().until(1), 1);
        CHECK.same("until(1000), as nothing can sink", Made.onDay(0).until(1000), 0);
        CHECK.same("until(1000), as 3 pascals stay", fast().until(1000), BAD);
    }

    private static void noSuchShare() {
        for (int share : new int[] {-1, 1001, Integer.MIN_VALUE, Integer.MAX_VALUE}) {
            new Twins(CHECK, Made::busy).refuse("until(" + share + ")", x -> x.until(share));
            CHECK.same("until(" + share + "), the end is 0", Made.onDay(0).until(share), BAD);
        }
    }

    private static void soMuchOrMore() {
        CHECK.same("as much", fast().until(997), 1);
        CHECK.same("more", fast().until(996), 1);
        CHECK.same("one more than there will be", fast().until(998), BAD);
    }

    /** Closed, the middle cell carries most after some days, then less: only it sinks. */
    private static SettleLayers risingAndFalling() {
        SettleLayers x = Made.ground(1, 300, 0, 0, 0);
        x.layer(1, 6, 100, 100, 0);
        x.layer(1, 1, 0, 0, 0);
        x.load(0, 200_000);
        x.run(10);
        x.drains(false, false, 0);
        return x;
    }

    private static void forTheFirstTime() {
        SettleLayers x = risingAndFalling();
        int now = x.share();
        int most = now;
        int dayOfMost = 0;
        for (int day = 1; day <= 60; day++) {
            x.run(1);
            if (x.share() > most) {
                most = x.share();
                dayOfMost = day;
            }
        }
        CHECK.holds("it rises", most > now + 5);
        CHECK.holds("it falls again", x.share() < most - 5);
        CHECK.same("the day of the most", risingAndFalling().until(most), dayOfMost);
        CHECK.same("more than that", risingAndFalling().until(most + 1), BAD);
    }

    private static void endOfZero() {
        CHECK.same("no loads, share 1,000", Made.onDay(7).until(1000), 0);
        SettleLayers stiff = Made.ground(1, 0, 0, 0, 0);
        stiff.load(5, 1000);
        CHECK.same("ground that doesn't sink", stiff.until(1000), 0);
    }

    private static void itWouldNot() {
        SettleLayers closed = Made.ground(2, 0, 10, 10, 0);
        closed.load(0, 100_000);
        CHECK.same("no water goes", closed.until(1), BAD);
        SettleLayers x = fast();
        x.drains(false, false, 0);
        CHECK.same("closed", x.until(1), BAD);
        x.drains(true, false, 0);
        CHECK.same("open", x.until(1), 1);
    }

    private static void noLayers() {
        new Twins(CHECK, SettleLayers::new).refuse("until(0)", x -> x.until(0));
        SettleLayers x = new SettleLayers();
        x.load(0, 5);
        CHECK.same("until(0), with a load", x.until(0), BAD);
        CHECK.same("until(1000), with a load", x.until(1000), BAD);
    }

    private static void loadsThatComeMeanwhile() {
        SettleLayers x = fast();
        x.load(20, 1000);
        CHECK.same("before it comes", x.until(498), 1);
        CHECK.same("when it has come", x.until(499), 21);
        CHECK.same("at last", x.until(998), 21);
    }

    private static void beyondDay400() {
        SettleLayers old = Made.ground(10, 100, 10, 10, 0);
        old.load(399, 100_000);
        Made.runTo(old, 399);
        SettleLayers young = Made.ground(10, 100, 10, 10, 0);
        young.load(0, 100_000);
        int days = young.until(900);
        CHECK.holds("it takes more than a day", days > 1);
        CHECK.same("day 400 bounds run alone", old.until(900), days);
    }

    private static void whatIsThereStays() {
        for (int share : new int[] {0, 500, 990, 1000}) {
            new Twins(CHECK, Made::busy).leave("until(" + share + ")", x -> x.until(share));
        }
    }
}
