/** Promise 7: "A cell's pressure (0), what it carries (1), its past (2). BAD: none such." */
public final class ToldTest {
    private static final Check CHECK = new Check("ToldTest");
    private static final int BAD = SettleLayers.BAD;

    public static void main(String[] args) {
        pressure();
        carried();
        past();
        beforeTheDayGoesBy();
        noSuchCell();
        noCells();
        noSuchNumber();
        theMostThatCanBe();
        asksOnly();
        CHECK.finish();
    }

    /** One cell which 3 pascals of 1,000 stay in. */
    private static SettleLayers settled() {
        SettleLayers x = Made.ground(1, 300, 10, 50, 300);
        x.load(0, 1000);
        x.run(5);
        return x;
    }

    private static void pressure() {
        CHECK.same("told(0, 0)", settled().told(0, 0), 3);
    }

    private static void carried() {
        CHECK.same("told(0, 1)", settled().told(0, 1), 997);
    }

    private static void past() {
        CHECK.same("told(0, 2)", settled().told(0, 2), 997);
    }

    private static void beforeTheDayGoesBy() {
        SettleLayers x = Made.ground(2, 100, 1, 1, 44);
        x.load(0, 500);
        CHECK.same("pressure", x.told(1, 0), 0);
        CHECK.same("carried", x.told(1, 1), 0);
        CHECK.same("past", x.told(1, 2), 44);
    }

    private static void noSuchCell() {
        for (int cell : new int[] {-1, 5, 6, 29, 30, 31, Integer.MIN_VALUE, Integer.MAX_VALUE}) {
            for (int what = 0; what <= 2; what++) {
                CHECK.same("told(" + cell + ", " + what + ") of 5 cells", Made.busy().told(cell, what), BAD);
            }
        }
        CHECK.holds("the last of 5 cells", Made.busy().told(4, 1) >= 0);
        CHECK.same("the last of 30 cells", Made.greatest().told(29, 2), 0);
        CHECK.same("none behind it", Made.greatest().told(30, 2), BAD);
    }

    private static void noCells() {
        for (int what = -1; what <= 3; what++) {
            CHECK.same("told(0, " + what + ")", new SettleLayers().told(0, what), BAD);
        }
    }

    private static void noSuchNumber() {
        for (int what : new int[] {-1, 3, Integer.MIN_VALUE, Integer.MAX_VALUE}) {
            CHECK.same("told(0, " + what + ")", Made.busy().told(0, what), BAD);
            CHECK.same("told(5, " + what + ")", Made.busy().told(5, what), BAD);
        }
    }

    private static void theMostThatCanBe() {
        SettleLayers x = Made.greatest();
        x.drains(false, false, 0);
        x.run(1);
        CHECK.same("pressure", x.told(29, 0), 2_400_000);
        CHECK.same("carried", x.told(29, 1), 0);
        x.drains(false, false, 200);
        x.run(20);
        CHECK.same("carried then", x.told(29, 1), 2_399_996);
        CHECK.same("past then", x.told(29, 2), 2_399_996);
    }

    private static void asksOnly() {
        for (int what = -1; what <= 3; what++) {
            int asked = what;
            new Twins(CHECK, Made::busy).leave("told(1, " + what + ")", x -> x.told(1, asked));
        }
    }
}
