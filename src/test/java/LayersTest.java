/** Promises 1 (a new object), 2 (layer), 3 (drains) and 17 (count). */
public final class LayersTest {
    private static final Check CHECK = new Check("LayersTest");
    private static final int BAD = SettleLayers.BAD;

    public static void main(String[] args) {
        newObject();
        newObjectIsDrainedAboveOnly();
        objectsAreApart();
        layerNumbers();
        layerRefusesNumbers();
        layerRefusesMoreThanThirtyCells();
        layerComesBeforeLoadsAndDays();
        drainsNumbers();
        drainsAboveAndBelow();
        drainsFromEachCell();
        counts();
        CHECK.finish();
    }

    private static void newObject() {
        SettleLayers x = new SettleLayers();
        for (int what = 0; what <= 5; what++) {
            CHECK.same("new count(" + what + ")", x.count(what), 0);
        }
        CHECK.same("new sunk(-1)", x.sunk(-1), 0);
        CHECK.same("new sunk(0)", x.sunk(0), BAD);
        CHECK.same("new told(0, 0)", x.told(0, 0), BAD);
        CHECK.same("new out()", x.out(), 0);
        CHECK.same("new balance()", x.balance(), true);
        CHECK.same("new end()", x.end(), 0);
        CHECK.same("new share()", x.share(), 1000);
        CHECK.same("new off(0)", x.off(0), 0);
        CHECK.same("new foretold(2)", x.foretold(2), BAD);
        CHECK.same("BAD", BAD, -1);
    }

    private static void newObjectIsDrainedAboveOnly() {
        SettleLayers plain = twoCells();
        SettleLayers told = twoCells();
        told.drains(true, false, 0);
        plain.run(1);
        told.run(1);
        CHECK.holds("at first it is drained above, not below, without drains", Look.at(plain).equals(Look.at(told)));
    }

    private static SettleLayers twoCells() {
        SettleLayers x = new SettleLayers();
        x.layer(1, 200, 10, 20, 500);
        x.layer(1, 100, 10, 20, 500);
        x.load(0, 10_000);
        return x;
    }

    private static void objectsAreApart() {
        SettleLayers one = twoCells();
        SettleLayers other = new SettleLayers();
        one.run(1);
        one.read(3, 3);
        CHECK.same("another object's layers", other.count(0), 0);
        CHECK.same("another object's day", other.count(3), 0);
        CHECK.same("another object's readings", other.count(4), 0);
    }

    private static void layerNumbers() {
        SettleLayers x = new SettleLayers();
        CHECK.same("least layer", x.layer(1, 0, 0, 0, 0), 0);
        CHECK.same("greatest layer", x.layer(10, 300, 1000, 1000, 1_000_000), 1);
        CHECK.same("soft above hard", x.layer(2, 7, 3, 4, 5), 2);
        CHECK.same("layers", x.count(0), 3);
        CHECK.same("cells", x.count(1), 13);
        CHECK.same("past of the first cell", x.told(0, 2), 0);
        CHECK.same("past of the second layer's first cell", x.told(1, 2), 1_000_000);
        CHECK.same("past of the second layer's last cell", x.told(10, 2), 1_000_000);
        CHECK.same("past of the last cell", x.told(12, 2), 5);
        CHECK.same("no cell behind the last", x.told(13, 2), BAD);
    }

    private static void layerRefusesNumbers() {
        int[][] wrong = {
            {0, 5, 5, 5, 5}, {-1, 5, 5, 5, 5}, {11, 5, 5, 5, 5},
            {1, -1, 5, 5, 5}, {1, 301, 5, 5, 5},
            {1, 5, -1, 5, 5}, {1, 5, 1001, 1001, 5}, {1, 5, 1001, 1000, 5},
            {1, 5, 5, 1001, 5}, {1, 5, 5, 4, 5}, {1, 5, 0, -1, 5}, {1, 5, -2, -1, 5},
            {1, 5, 5, 5, -1}, {1, 5, 5, 5, 1_000_001},
            {Integer.MAX_VALUE, 5, 5, 5, 5}, {Integer.MIN_VALUE, 5, 5, 5, 5},
            {1, Integer.MIN_VALUE, 5, 5, 5}, {1, 5, 5, Integer.MAX_VALUE, 5}, {1, 5, 5, 5, Integer.MIN_VALUE},
        };
        SettleLayers x = new SettleLayers();
        for (int[] w : wrong) {
            CHECK.same("wrong layer " + java.util.Arrays.toString(w), x.layer(w[0], w[1], w[2], w[3], w[4]), BAD);
        }
        CHECK.same("no layer came of wrong ones", x.count(0), 0);
        CHECK.same("no cell came of wrong ones", x.count(1), 0);
        CHECK.same("the next layer is the first", x.layer(1, 5, 5, 5, 5), 0);
    }

    private static void layerRefusesMoreThanThirtyCells() {
        SettleLayers x = new SettleLayers();
        x.layer(10, 5, 5, 5, 5);
        x.layer(10, 5, 5, 5, 5);
        x.layer(1, 5, 5, 5, 5);
        CHECK.same("31 cells", x.layer(10, 5, 5, 5, 5), BAD);
        CHECK.same("30 cells", x.layer(9, 5, 5, 5, 5), 3);
        CHECK.same("no more", x.layer(1, 5, 5, 5, 5), BAD);
        CHECK.same("cells", x.count(1), 30);

        SettleLayers thin = new SettleLayers();
        for (int i = 0; i < 30; i++) {
            CHECK.same("layer of one cell", thin.layer(1, 5, 5, 5, i), i);
        }
        CHECK.same("the 31st layer", thin.layer(1, 5, 5, 5, 5), BAD);
        CHECK.same("the last layer can be asked for", thin.sunk(29), 0);
    }

    private static void layerComesBeforeLoadsAndDays() {
        SettleLayers loaded = new SettleLayers();
        loaded.layer(1, 5, 5, 5, 5);
        loaded.load(0, 0);
        CHECK.same("layer after a load that was none", loaded.layer(1, 5, 5, 5, 5), 1);
        loaded.load(9, 1);
        CHECK.same("layer after a load was told", loaded.layer(1, 5, 5, 5, 5), BAD);

        SettleLayers older = new SettleLayers();
        older.layer(1, 5, 5, 5, 5);
        older.run(1);
        CHECK.same("layer after a day", older.layer(1, 5, 5, 5, 5), BAD);

        SettleLayers bare = new SettleLayers();
        CHECK.same("load without layers", bare.load(0, 1), 1);
        CHECK.same("first layer after a load", bare.layer(1, 5, 5, 5, 5), BAD);

        SettleLayers readAndDrained = new SettleLayers();
        readAndDrained.read(0, 1);
        readAndDrained.drains(true, true, 5);
        CHECK.same("readings and drains hinder no layer", readAndDrained.layer(1, 5, 5, 5, 5), 0);
    }

    private static void drainsNumbers() {
        SettleLayers x = new SettleLayers();
        CHECK.same("drains 0", x.drains(false, false, 0), true);
        CHECK.same("drains 200", x.drains(true, true, 200), true);
        CHECK.same("drains -1", x.drains(true, true, -1), false);
        CHECK.same("drains 201", x.drains(true, true, 201), false);
        CHECK.same("drains least int", x.drains(true, true, Integer.MIN_VALUE), false);
        CHECK.same("drains greatest int", x.drains(true, true, Integer.MAX_VALUE), false);
    }

    private static SettleLayers oneCell(int leak, boolean above, boolean below, int drain) {
        SettleLayers x = new SettleLayers();
        x.layer(1, leak, 10, 10, 0);
        x.drains(above, below, drain);
        x.load(0, 100_000);
        x.run(1);
        return x;
    }

    private static int pressureOfOneCell(int leak, int ways, int drain) {
        int pressure = 100_000;
        for (int step = 0; step < 24; step++) {
            pressure -= ways * (pressure * leak / 1000) + pressure * drain / 1000;
        }
        return pressure;
    }

    private static void drainsAboveAndBelow() {
        CHECK.same("closed", oneCell(50, false, false, 0).told(0, 0), 100_000);
        CHECK.same("above", oneCell(50, true, false, 0).told(0, 0), pressureOfOneCell(50, 1, 0));
        CHECK.same("below", oneCell(50, false, true, 0).told(0, 0), pressureOfOneCell(50, 1, 0));
        CHECK.same("both", oneCell(50, true, true, 0).told(0, 0), pressureOfOneCell(50, 2, 0));
        CHECK.same("drain", oneCell(50, false, false, 30).told(0, 0), pressureOfOneCell(50, 0, 30));
        CHECK.same("all", oneCell(300, true, true, 200).told(0, 0), pressureOfOneCell(300, 2, 200));

        SettleLayers refused = new SettleLayers();
        refused.layer(1, 50, 10, 10, 0);
        refused.drains(false, true, 30);
        refused.drains(true, false, 201);
        refused.load(0, 100_000);
        refused.run(1);
        CHECK.same("what is refused changes nothing", refused.told(0, 0), pressureOfOneCell(50, 1, 30));
    }

    private static void drainsFromEachCell() {
        SettleLayers x = new SettleLayers();
        x.layer(3, 0, 10, 10, 0);
        x.drains(true, true, 100);
        x.load(0, 100_000);
        x.run(1);
        for (int cell = 0; cell < 3; cell++) {
            CHECK.same("drained cell " + cell, x.told(cell, 0), pressureOfOneCell(0, 0, 100));
        }
        x.drains(true, true, 0);
        x.run(1);
        CHECK.same("no drain from then on", x.told(1, 0), pressureOfOneCell(0, 0, 100));
    }

    private static void counts() {
        SettleLayers x = new SettleLayers();
        x.layer(2, 5, 5, 5, 5);
        x.layer(3, 5, 5, 5, 5);
        x.load(0, 700);
        x.load(2, 800);
        x.load(2, 900);
        x.read(1, 1);
        CHECK.same("no load has come before its day goes by", x.count(5), 0);
        x.run(2);
        int[] due = {2, 5, 3, 2, 1, 700};
        for (int what = 0; what < due.length; what++) {
            CHECK.same("count(" + what + ")", x.count(what), due[what]);
        }
        x.run(1);
        CHECK.same("all loads that have come", x.count(5), 2400);
        for (int what : new int[] {-1, 6, Integer.MIN_VALUE, Integer.MAX_VALUE}) {
            CHECK.same("count(" + what + ")", x.count(what), BAD);
        }
    }
}
