/**
 * Promise 2: "One more layer below the others: which one. BAD: none such numbers; soft is below hard; there would be
 * more than 30 cells; days have gone by, or a load was told."
 */
public final class LayerTest {
    private static final Check CHECK = new Check("LayerTest");
    private static final Twins NEW = new Twins(CHECK, SettleLayers::new);
    private static final Twins ONE_LAYER = new Twins(CHECK, () -> Made.ground(3, 50, 4, 9, 100));

    public static void main(String[] args) {
        whichOne();
        belowTheOthers();
        cellsOneToTen();
        leakUpTo300();
        hardUpTo1000();
        softUpTo1000();
        pastUpToAMillion();
        softIsNotBelowHard();
        thirtyCells();
        thirtyLayersOfOneCell();
        notMoreThanThirtyCells();
        notWhenDaysHaveGoneBy();
        notWhenALoadWasTold();
        refusedLoadsAndRunsHinderNoLayer();
        readingsAndDrainsHinderNoLayer();
        CHECK.finish();
    }

    private static void refuse(int cells, int leak, int hard, int soft, int past) {
        String call = "layer(" + cells + ", " + leak + ", " + hard + ", " + soft + ", " + past + ")";
        NEW.refuse(call, x -> x.layer(cells, leak, hard, soft, past));
        ONE_LAYER.refuse(call, x -> x.layer(cells, leak, hard, soft, past));
    }

    private static void whichOne() {
        SettleLayers x = new SettleLayers();
        CHECK.same("the first", x.layer(2, 7, 3, 4, 5), 0);
        CHECK.same("the second", x.layer(3, 7, 3, 4, 5), 1);
        CHECK.same("one that is none", x.layer(11, 7, 3, 4, 5), SettleLayers.BAD);
        CHECK.same("the third", x.layer(1, 7, 3, 4, 5), 2);
        CHECK.same("layers", x.count(0), 3);
        CHECK.same("cells", x.count(1), 6);
    }

    private static void belowTheOthers() {
        SettleLayers x = new SettleLayers();
        x.layer(1, 7, 3, 4, 11);
        x.layer(2, 7, 3, 4, 22);
        x.layer(1, 7, 3, 4, 33);
        int[] pasts = {11, 22, 22, 33};
        for (int cell = 0; cell < pasts.length; cell++) {
            CHECK.same("past of cell " + cell, x.told(cell, 2), pasts[cell]);
        }
    }

    private static void cellsOneToTen() {
        CHECK.same("1 cell", Made.ground(1, 5, 5, 5, 5).count(1), 1);
        CHECK.same("10 cells", Made.ground(10, 5, 5, 5, 5).count(1), 10);
        for (int cells : new int[] {0, -1, 11, 30, Integer.MIN_VALUE, Integer.MAX_VALUE}) {
            refuse(cells, 5, 5, 5, 5);
        }
    }

    private static void leakUpTo300() {
        CHECK.same("leak 0", new SettleLayers().layer(1, 0, 5, 5, 5), 0);
        CHECK.same("leak 300", new SettleLayers().layer(1, 300, 5, 5, 5), 0);
        for (int leak : new int[] {-1, 301, Integer.MIN_VALUE, Integer.MAX_VALUE}) {
            refuse(1, leak, 5, 5, 5);
        }
    }

    private static void hardUpTo1000() {
        CHECK.same("hard 0", new SettleLayers().layer(1, 5, 0, 5, 5), 0);
        CHECK.same("hard 1,000", new SettleLayers().layer(1, 5, 1000, 1000, 5), 0);
        for (int hard : new int[] {-1, Integer.MIN_VALUE}) {
            refuse(1, 5, hard, 5, 5);
            refuse(1, 5, hard, hard, 5);
        }
        refuse(1, 5, 1001, 1000, 5);
        refuse(1, 5, 1001, 1001, 5);
        refuse(1, 5, Integer.MAX_VALUE, Integer.MAX_VALUE, 5);
    }

    private static void softUpTo1000() {
        CHECK.same("soft 0", new SettleLayers().layer(1, 5, 0, 0, 5), 0);
        CHECK.same("soft 1,000", new SettleLayers().layer(1, 5, 0, 1000, 5), 0);
        for (int soft : new int[] {1001, Integer.MAX_VALUE, -1, Integer.MIN_VALUE}) {
            refuse(1, 5, 0, soft, 5);
        }
    }

    private static void pastUpToAMillion() {
        CHECK.same("past 0", Made.ground(1, 5, 5, 5, 0).told(0, 2), 0);
        CHECK.same("past 1,000,000", Made.ground(1, 5, 5, 5, 1_000_000).told(0, 2), 1_000_000);
        for (int past : new int[] {-1, 1_000_001, Integer.MIN_VALUE, Integer.MAX_VALUE}) {
            refuse(1, 5, 5, 5, past);
        }
    }

    private static void softIsNotBelowHard() {
        CHECK.same("as much", new SettleLayers().layer(1, 5, 7, 7, 5), 0);
        CHECK.same("more", new SettleLayers().layer(1, 5, 7, 8, 5), 0);
        refuse(1, 5, 7, 6, 5);
        refuse(1, 5, 1, 0, 5);
        refuse(1, 5, 1000, 999, 5);
    }

    private static SettleLayers cells21() {
        SettleLayers x = Made.ground(10, 5, 5, 5, 5);
        x.layer(10, 5, 5, 5, 5);
        x.layer(1, 5, 5, 5, 5);
        return x;
    }

    private static void thirtyCells() {
        SettleLayers x = cells21();
        CHECK.same("with 9 more they are 30", x.layer(9, 5, 5, 5, 44), 3);
        CHECK.same("cells", x.count(1), 30);
        CHECK.same("the last one", x.told(29, 2), 44);
        CHECK.same("none behind it", x.told(30, 2), SettleLayers.BAD);
    }

    private static void thirtyLayersOfOneCell() {
        SettleLayers x = new SettleLayers();
        for (int i = 0; i < 30; i++) {
            CHECK.same("layer of one cell", x.layer(1, 5, 5, 5, i), i);
        }
        CHECK.same("the 31st", x.layer(1, 5, 5, 5, 5), SettleLayers.BAD);
        CHECK.same("layers", x.count(0), 30);
        CHECK.same("the last layer", x.sunk(29), 0);
        CHECK.same("none behind it", x.sunk(30), SettleLayers.BAD);
    }

    private static void notMoreThanThirtyCells() {
        Twins most = new Twins(CHECK, LayerTest::cells21);
        most.refuse("10 more than 21", x -> x.layer(10, 5, 5, 5, 5));
        most.refuse("a cell more than there can be", x -> x.layer(Integer.MAX_VALUE, 5, 5, 5, 5));
        Twins full = new Twins(CHECK, Made::greatest);
        full.refuse("1 more than 30", x -> x.layer(1, 5, 5, 5, 5));
        SettleLayers x = Made.ground(10, 5, 5, 5, 5);
        x.layer(10, 5, 5, 5, 5);
        x.layer(10, 5, 5, 5, 5);
        CHECK.same("1 more than 30, without loads", x.layer(1, 5, 5, 5, 5), SettleLayers.BAD);
        CHECK.same("cells", x.count(1), 30);
    }

    private static void notWhenDaysHaveGoneBy() {
        new Twins(CHECK, () -> Made.onDay(1)).refuse("layer on day 1", x -> x.layer(1, 5, 5, 5, 5));
        new Twins(CHECK, () -> Made.onDay(400)).refuse("layer on day 400", x -> x.layer(1, 5, 5, 5, 5));
    }

    private static SettleLayers told(SettleLayers x, int day) {
        x.load(day, 1);
        return x;
    }

    private static void notWhenALoadWasTold() {
        new Twins(CHECK, () -> told(Made.onDay(0), 0)).refuse("layer after a load", x -> x.layer(1, 5, 5, 5, 5));
        new Twins(CHECK, () -> told(Made.onDay(0), 9)).refuse("layer before a load", x -> x.layer(1, 5, 5, 5, 5));
        new Twins(CHECK, () -> told(new SettleLayers(), 0)).refuse("first layer", x -> x.layer(1, 5, 5, 5, 5));
    }

    private static void refusedLoadsAndRunsHinderNoLayer() {
        SettleLayers x = new SettleLayers();
        x.run(1);
        x.load(0, 0);
        x.load(400, 5);
        CHECK.same("layer", x.layer(1, 5, 5, 5, 5), 0);
        x.run(0);
        x.run(61);
        CHECK.same("one more", x.layer(1, 5, 5, 5, 5), 1);
    }

    private static void readingsAndDrainsHinderNoLayer() {
        SettleLayers x = new SettleLayers();
        x.read(0, 1);
        x.drains(true, true, 5);
        CHECK.same("layer", x.layer(1, 5, 5, 5, 5), 0);
    }
}
