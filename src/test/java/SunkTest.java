/**
 * Promise 6: "What has sunk in all, in micrometres, cut off; of a layer alone (layer - 1: of all). BAD: there is none
 * such."
 */
public final class SunkTest {
    private static final Check CHECK = new Check("SunkTest");
    private static final int BAD = SettleLayers.BAD;

    public static void main(String[] args) {
        cutOff();
        ofALayerAlone();
        ofAll();
        ofAllWithoutLayers();
        noSuchLayer();
        theMostThatCanSink();
        asksOnly();
        CHECK.finish();
    }

    private static void cutOff() {
        SettleLayers x = Made.ground(1, 300, 10, 50, 300);
        x.load(0, 1000);
        CHECK.same("before a day", x.sunk(-1), 0);
        x.run(5);
        CHECK.same("37,850 units", x.sunk(-1), (300 * 10 + 697 * 50) / 1000);
        CHECK.same("37,850 units of the layer", x.sunk(0), 37);
    }

    /** 4 pascals stay in each cell, which carries 900. */
    private static SettleLayers twoLayers() {
        SettleLayers x = Made.ground(1, 300, 1, 1, 0);
        x.layer(2, 300, 2, 2, 0);
        x.drains(false, false, 200);
        x.load(0, 904);
        x.run(10);
        return x;
    }

    private static void ofALayerAlone() {
        CHECK.same("900 units", twoLayers().sunk(0), 0);
        CHECK.same("two times 1,800 units", twoLayers().sunk(1), 3);
    }

    private static void ofAll() {
        CHECK.same("4,500 units, cut off once", twoLayers().sunk(-1), 4);
    }

    private static void ofAllWithoutLayers() {
        SettleLayers x = new SettleLayers();
        CHECK.same("new", x.sunk(-1), 0);
        x.load(0, 5000);
        CHECK.same("with a load", x.sunk(-1), 0);
    }

    private static void noSuchLayer() {
        for (int layer : new int[] {-2, 2, 3, 29, 30, 31, Integer.MIN_VALUE, Integer.MAX_VALUE}) {
            CHECK.same("sunk(" + layer + ") of two layers", twoLayers().sunk(layer), BAD);
        }
        for (int layer : new int[] {-2, 0, 1, Integer.MIN_VALUE, Integer.MAX_VALUE}) {
            CHECK.same("sunk(" + layer + ") of none", new SettleLayers().sunk(layer), BAD);
        }
    }

    private static void theMostThatCanSink() {
        SettleLayers x = Made.greatest();
        x.drains(true, true, 200);
        x.run(60);
        long carried = 0;
        for (int cell = 0; cell < 30; cell++) {
            carried += x.told(cell, 1);
        }
        CHECK.same("a micrometre for each pascal", x.sunk(-1), carried);
        CHECK.holds("nearly 72 metres", carried > 71_999_000);
        CHECK.same("of its layers", x.sunk(0) + x.sunk(1) + x.sunk(2), carried);
    }

    private static void asksOnly() {
        new Twins(CHECK, Made::busy).leave("sunk(-1)", x -> x.sunk(-1));
        new Twins(CHECK, Made::busy).leave("sunk(1)", x -> x.sunk(1));
        new Twins(CHECK, Made::busy).refuse("sunk(2)", x -> x.sunk(2));
    }
}
