/** Objects that several tests begin with. */
final class Made {
    private Made() {
    }

    static SettleLayers ground(int cells, int leak, int hard, int soft, int past) {
        SettleLayers x = new SettleLayers();
        x.layer(cells, leak, hard, soft, past);
        return x;
    }

    /** Layers, drains, loads that have come and loads that will, days, readings: all that a wrong call could spoil. */
    static SettleLayers busy() {
        SettleLayers x = new SettleLayers();
        x.layer(2, 100, 10, 50, 3000);
        x.layer(3, 20, 5, 5, 0);
        x.drains(true, true, 1);
        x.load(0, 10_000);
        x.load(3, 10_000);
        x.load(200, 10_000);
        x.read(1, 50);
        x.read(4, 90);
        x.run(3);
        return x;
    }

    /** The most cells under the most and greatest loads, each pascal of which sinks a micrometre in each cell. */
    static SettleLayers greatest() {
        SettleLayers x = new SettleLayers();
        for (int i = 0; i < 3; i++) {
            x.layer(10, 300, 1000, 1000, 0);
        }
        for (int i = 0; i < 12; i++) {
            x.load(0, 200_000);
        }
        return x;
    }

    static SettleLayers onDay(int day) {
        return runTo(ground(1, 100, 10, 10, 0), day);
    }

    static SettleLayers runTo(SettleLayers x, int day) {
        int now = x.count(3);
        while (now >= 0 && now < day) {
            now = x.run(Math.min(60, day - now));
        }
        return x;
    }

    /** Readings by pairs of a day and micrometres. */
    static SettleLayers readings(long... daysAndValues) {
        SettleLayers x = new SettleLayers();
        for (int i = 0; i + 1 < daysAndValues.length; i += 2) {
            x.read((int) daysAndValues[i], daysAndValues[i + 1]);
        }
        return x;
    }
}
