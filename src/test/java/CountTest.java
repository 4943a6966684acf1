/**
 * Promise 17: "0 layers, 1 cells, 2 loads, 3 the day, 4 readings, 5 all loads that have come. BAD: another number."
 */
public final class CountTest {
    private static final Check CHECK = new Check("CountTest");

    public static void main(String[] args) {
        eachNumber();
        loadsThatHaveCome();
        theMost();
        anotherNumber();
        asksOnly();
        CHECK.finish();
    }

    private static void eachNumber() {
        SettleLayers x = Made.ground(2, 5, 5, 5, 5);
        x.layer(3, 5, 5, 5, 5);
        x.load(0, 700);
        x.load(5, 800);
        x.load(5, 900);
        x.run(4);
        x.read(1, 1);
        int[] due = {2, 5, 3, 4, 1, 700};
        for (int what = 0; what < due.length; what++) {
            CHECK.same("count(" + what + ")", x.count(what), due[what]);
        }
    }

    private static void loadsThatHaveCome() {
        SettleLayers x = Made.onDay(0);
        x.load(0, 700);
        x.load(2, 800);
        x.load(2, 900);
        CHECK.same("none before its day goes by", x.count(5), 0);
        x.run(2);
        CHECK.same("on day 2", x.count(5), 700);
        x.run(1);
        CHECK.same("on day 3", x.count(5), 2400);
        x.run(1);
        CHECK.same("they come once", x.count(5), 2400);
    }

    private static void theMost() {
        SettleLayers x = Made.greatest();
        for (int day = 381; day <= 400; day++) {
            x.read(day, 5);
        }
        Made.runTo(x, 400);
        int[] due = {3, 30, 12, 400, 20, 2_400_000};
        for (int what = 0; what < due.length; what++) {
            CHECK.same("count(" + what + ")", x.count(what), due[what]);
        }
    }

    private static void anotherNumber() {
        for (int what : new int[] {-1, 6, Integer.MIN_VALUE, Integer.MAX_VALUE}) {
            CHECK.same("count(" + what + ")", Made.busy().count(what), SettleLayers.BAD);
            CHECK.same("new count(" + what + ")", new SettleLayers().count(what), SettleLayers.BAD);
        }
    }

    private static void asksOnly() {
        for (int what = -1; what <= 6; what++) {
            int asked = what;
            new Twins(CHECK, Made::busy).leave("count(" + what + ")", x -> x.count(asked));
        }
    }
}
