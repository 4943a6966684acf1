/**
 * Promise 11: "How many thousandths of the end have sunk (both in units of sinking), cut off; 1,000, if the end is 0."
 */
public final class ShareTest {
    private static final Check CHECK = new Check("ShareTest");

    public static void main(String[] args) {
        thousandths();
        inUnits();
        cutOff();
        endOfZero();
        endOfLessThanAMicrometre();
        nothingHasSunk();
        theGreatest();
        asksOnly();
        CHECK.finish();
    }

    private static void thousandths() {
        SettleLayers x = Made.ground(1, 300, 10, 10, 0);
        x.load(0, 1000);
        x.run(10);
        CHECK.same("997 of 1,000", x.share(), 997);
        x.load(10, 1000);
        CHECK.same("997 of 2,000", x.share(), 498);
        x.load(399, 2000);
        CHECK.same("997 of 4,000", x.share(), 249);
    }

    private static void inUnits() {
        SettleLayers x = Made.ground(1, 300, 1, 1, 0);
        x.load(0, 1999);
        x.run(10);
        CHECK.same("1,996 of 1,999 units, 1 of 1 micrometres", x.share(), 998);
    }

    private static void cutOff() {
        SettleLayers x = Made.ground(1, 300, 1, 1, 0);
        x.load(0, 200_000);
        x.run(10);
        CHECK.same("199,997 of 200,000", x.share(), 999);
        SettleLayers half = Made.ground(1, 300, 1, 1, 0);
        half.load(0, 1003);
        half.run(10);
        half.load(10, 998);
        CHECK.same("1,000 of 2,001", half.share(), 499);
    }

    private static void endOfZero() {
        SettleLayers bare = new SettleLayers();
        CHECK.same("no layers", bare.share(), 1000);
        bare.load(0, 5);
        CHECK.same("no layers under a load", bare.share(), 1000);
        CHECK.same("no loads", Made.ground(1, 100, 10, 10, 0).share(), 1000);
        SettleLayers stiff = Made.ground(1, 100, 0, 0, 0);
        stiff.load(0, 1000);
        CHECK.same("ground that doesn't sink", stiff.share(), 1000);
        stiff.run(1);
        CHECK.same("a day later", stiff.share(), 1000);
        SettleLayers stiffAtFirst = Made.ground(1, 100, 0, 5, 1000);
        stiffAtFirst.load(0, 1000);
        CHECK.same("up to its past", stiffAtFirst.share(), 1000);
        stiffAtFirst.load(0, 1);
        CHECK.same("beyond its past", stiffAtFirst.share(), 0);
    }

    private static void endOfLessThanAMicrometre() {
        SettleLayers x = Made.ground(1, 300, 1, 1, 0);
        x.load(0, 20);
        CHECK.same("0 of 20 units", x.share(), 0);
        x.run(10);
        CHECK.same("17 of 20 units", x.share(), 850);
        CHECK.same("the end", x.end(), 0);
    }

    private static void nothingHasSunk() {
        SettleLayers x = Made.ground(1, 300, 10, 10, 0);
        x.load(0, 1000);
        CHECK.same("before a day", x.share(), 0);
        SettleLayers closed = Made.ground(1, 0, 10, 10, 0);
        closed.load(0, 1000);
        closed.run(60);
        CHECK.same("no water goes", closed.share(), 0);
    }

    private static void theGreatest() {
        SettleLayers x = Made.greatest();
        x.drains(true, true, 200);
        x.run(60);
        CHECK.same("nearly all of 72 metres", x.share(), 999);
    }

    private static void asksOnly() {
        new Twins(CHECK, Made::busy).leave("share()", x -> x.share());
    }
}
