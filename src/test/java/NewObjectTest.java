/** Promise 1: "No layers, loads, readings; day 0." */
public final class NewObjectTest {
    private static final Check CHECK = new Check("NewObjectTest");
    private static final int BAD = SettleLayers.BAD;

    public static void main(String[] args) {
        badIsMinusOne();
        noLayers();
        noLoads();
        noReadings();
        dayZero();
        objectsAreApart();
        CHECK.finish();
    }

    private static void badIsMinusOne() {
        CHECK.same("BAD", BAD, -1);
    }

    private static void noLayers() {
        SettleLayers x = new SettleLayers();
        CHECK.same("layers", x.count(0), 0);
        CHECK.same("cells", x.count(1), 0);
        CHECK.same("sunk(-1)", x.sunk(-1), 0);
        CHECK.same("sunk(0)", x.sunk(0), BAD);
        CHECK.same("told(0, 0)", x.told(0, 0), BAD);
        CHECK.same("out()", x.out(), 0);
        CHECK.same("balance()", x.balance(), true);
        CHECK.same("run(1)", x.run(1), BAD);
        CHECK.same("until(0)", x.until(0), BAD);
        CHECK.same("surcharge(1, 1)", x.surcharge(1, 1), BAD);
        CHECK.same("the first layer", x.layer(10, 5, 5, 5, 5), 0);
    }

    private static void noLoads() {
        SettleLayers x = new SettleLayers();
        CHECK.same("loads", x.count(2), 0);
        CHECK.same("loads that have come", x.count(5), 0);
        CHECK.same("end()", x.end(), 0);
        CHECK.same("share()", x.share(), 1000);
        x.layer(1, 100, 10, 10, 0);
        x.run(60);
        CHECK.same("nothing came", x.count(5), 0);
        CHECK.same("nothing sank", x.sunk(-1), 0);
        CHECK.same("the first load", x.load(60, 1), 1);
    }

    private static void noReadings() {
        SettleLayers x = new SettleLayers();
        CHECK.same("readings", x.count(4), 0);
        CHECK.same("off(0)", x.off(0), 0);
        for (int rule = 0; rule <= 2; rule++) {
            CHECK.same("foretold(" + rule + ")", x.foretold(rule), BAD);
        }
        CHECK.same("the first reading", x.read(0, 0), 1);
    }

    private static void dayZero() {
        SettleLayers x = new SettleLayers();
        CHECK.same("the day", x.count(3), 0);
        CHECK.same("a load of day 0 is not too late", x.load(0, 1), 1);
        SettleLayers layered = Made.ground(1, 1, 1, 1, 1);
        CHECK.same("layers make no day", layered.count(3), 0);
        CHECK.same("the next day", layered.run(1), 1);
    }

    private static void objectsAreApart() {
        SettleLayers one = Made.busy();
        SettleLayers other = new SettleLayers();
        for (int what = 0; what <= 5; what++) {
            CHECK.holds("one has it, count(" + what + ")", one.count(what) > 0);
            CHECK.same("the other hasn't, count(" + what + ")", other.count(what), 0);
        }
    }
}
