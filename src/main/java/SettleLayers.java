/** Ground that settles under loads as water leaves it, in whole numbers; README.md tells how to use it. */
public final class SettleLayers {

    public static final int BAD = -1;

    private static final int MOST_CELLS = 30;
    private static final int MOST_CELLS_OF_A_LAYER = 10;
    private static final int MOST_LEAK = 300;
    private static final int MOST_HARD_OR_SOFT = 1_000;
    private static final int MOST_PAST = 1_000_000;
    private static final int MOST_DRAIN = 200;
    private static final int MOST_LOADS = 12;
    private static final int MOST_PASCALS = 200_000;
    private static final int LAST_DAY = 400;
    private static final int MOST_DAYS_OF_A_RUN = 60;
    private static final int STEPS_OF_A_DAY = 24;
    private static final int THOUSAND = 1_000;
    private static final int UNITS_OF_A_MICROMETRE = 1_000;
    private static final int MOST_DAYS_UNTIL = 300;
    private static final int MOST_SURCHARGE_STEP = 100_000;
    private static final int MOST_SURCHARGE_DAYS = 100;
    private static final int SURCHARGE_STEPS = 20;
    private static final int MOST_READINGS = 20;
    private static final long MOST_READ = 1_000_000_000_000L;
    private static final long MOST_FORETELLING = 100_000_000L;
    private static final int DAYS_FORETOLD = 100;

    private final Soil soil;
    private final Loads loads;
    private final Readings readings;
    private final Ground now;
    private final Ground trial;
    private final long[] micrometresAtDay;

    public SettleLayers() {
        soil = new Soil();
        loads = new Loads();
        readings = new Readings();
        now = new Ground(soil, loads);
        trial = new Ground(soil, loads);
        micrometresAtDay = new long[LAST_DAY + 1];
    }

    public int layer(int cells, int leak, int hard, int soft, int past) {
        if (now.day > 0 || loads.many > 0) {
            return BAD;
        }
        if (!within(cells, 1, MOST_CELLS_OF_A_LAYER) || cells > MOST_CELLS - soil.cells) {
            return BAD;
        }
        if (!within(leak, 0, MOST_LEAK) || !within(past, 0, MOST_PAST)) {
            return BAD;
        }
        if (!within(hard, 0, MOST_HARD_OR_SOFT) || !within(soft, hard, MOST_HARD_OR_SOFT)) {
            return BAD;
        }
        now.begin(soil.cells, cells, past);
        return soil.addLayer(cells, leak, hard, soft, past);
    }

    public boolean drains(boolean above, boolean below, int drain) {
        if (!within(drain, 0, MOST_DRAIN)) {
            return false;
        }
        soil.drainedAbove = above;
        soil.drainedBelow = below;
        soil.drain = drain;
        return true;
    }

    public int load(int day, int pascals) {
        if (!within(day, now.day, LAST_DAY - 1) || !within(pascals, 1, MOST_PASCALS)) {
            return BAD;
        }
        if (loads.many >= MOST_LOADS) {
            return BAD;
        }
        return loads.add(day, pascals);
    }

    public int run(int days) {
        if (soil.cells == 0 || !within(days, 1, MOST_DAYS_OF_A_RUN) || days > LAST_DAY - now.day) {
            return BAD;
        }
        for (int i = 0; i < days; i++) {
            now.passDay();
            micrometresAtDay[now.day] = now.unitsSunk() / UNITS_OF_A_MICROMETRE;
        }
        return now.day;
    }

    public long sunk(int layer) {
        if (layer == -1) {
            return now.unitsSunk() / UNITS_OF_A_MICROMETRE;
        }
        if (!within(layer, 0, soil.layers - 1)) {
            return BAD;
        }
        return now.unitsSunk(soil.firstCell[layer], soil.firstCell[layer + 1]) / UNITS_OF_A_MICROMETRE;
    }

    public int told(int cell, int what) {
        if (!within(cell, 0, soil.cells - 1)) {
            return BAD;
        }
        switch (what) {
            case 0:
                return (int) now.pressure[cell];
            case 1:
                return (int) now.carried(cell);
            case 2:
                return (int) now.past[cell];
            default:
                return BAD;
        }
    }

    public long out() {
        return now.waterOut;
    }

    public boolean balance() {
        return now.come * soil.cells == now.allPressures() + now.waterOut;
    }

    public long end() {
        return now.unitsAtEnd() / UNITS_OF_A_MICROMETRE;
    }

    public int share() {
        return thousandths(now.unitsSunk(), now.unitsAtEnd());
    }

    public int until(int share) {
        if (soil.cells == 0 || !within(share, 0, THOUSAND)) {
            return BAD;
        }
        // The end stays as it is while days go by, as no load is told meanwhile.
        long unitsAtEnd = now.unitsAtEnd();
        trial.become(now);
        int days = 0;
        while (days < MOST_DAYS_UNTIL && thousandths(trial.unitsSunk(), unitsAtEnd) < share) {
            trial.passDay();
            days++;
        }
        return thousandths(trial.unitsSunk(), unitsAtEnd) < share ? BAD : days;
    }

    public int surcharge(int step, int days) {
        if (soil.cells == 0 || !within(step, 1, MOST_SURCHARGE_STEP) || !within(days, 1, MOST_SURCHARGE_DAYS)) {
            return BAD;
        }
        long goal = now.unitsAtEnd();
        // One after the other: what is cut off in the steps may let a greater load sink less.
        for (int i = 0; i <= SURCHARGE_STEPS; i++) {
            if (unitsSunkWith(i * step, days) >= goal) {
                return i * step;
            }
        }
        return BAD;
    }

    public int read(int day, long v) {
        if (!within(day, readings.firstFreeDay(), LAST_DAY) || v < 0 || v > MOST_READ) {
            return BAD;
        }
        if (readings.many >= MOST_READINGS) {
            return BAD;
        }
        return readings.add(day, v);
    }

    public long foretold(int rule) {
        switch (rule) {
            case 0:
                return readings.foretellByLastThree();
            case 1:
                return readings.foretellByLastTwo();
            case 2:
                return readings.foretellByFirstAndLast();
            default:
                return BAD;
        }
    }

    public int off(long limit) {
        if (limit < 0) {
            return BAD;
        }
        int found = 0;
        for (int i = 0; i < readings.many; i++) {
            int day = readings.day[i];
            if (day <= now.day && Math.abs(readings.micrometres[i] - micrometresAtDay[day]) > limit) {
                found++;
            }
        }
        return found;
    }

    public int count(int what) {
        switch (what) {
            case 0:
                return soil.layers;
            case 1:
                return soil.cells;
            case 2:
                return loads.many;
            case 3:
                return now.day;
            case 4:
                return readings.many;
            case 5:
                return (int) now.come;
            default:
                return BAD;
        }
    }

    private long unitsSunkWith(int more, int days) {
        trial.become(now);
        trial.lay(more);
        for (int i = 0; i < days; i++) {
            trial.passDay();
        }
        return trial.unitsSunk();
    }

    private static boolean within(int number, int least, int most) {
        return number >= least && number <= most;
    }

    private static int thousandths(long part, long whole) {
        return whole == 0 ? THOUSAND : (int) (part * THOUSAND / whole);
    }

    /** What the layers are made of and where water may leave them. */
    private static final class Soil {
        final int[] leak = new int[MOST_CELLS];
        final int[] leakToNext = new int[MOST_CELLS];
        final int[] hard = new int[MOST_CELLS];
        final int[] soft = new int[MOST_CELLS];
        final int[] firstPast = new int[MOST_CELLS];
        // One place more than layers: a layer ends where the next one would begin.
        final int[] firstCell = new int[MOST_CELLS + 1];
        int layers;
        int cells;
        boolean drainedAbove = true;
        boolean drainedBelow;
        int drain;

        int addLayer(int more, int itsLeak, int itsHard, int itsSoft, int itsPast) {
            for (int i = 0; i < more && cells < MOST_CELLS; i++) {
                leak[cells] = itsLeak;
                hard[cells] = itsHard;
                soft[cells] = itsSoft;
                firstPast[cells] = itsPast;
                if (cells > 0) {
                    leakToNext[cells - 1] = Math.min(leak[cells - 1], itsLeak);
                }
                cells++;
            }
            layers++;
            firstCell[layers] = cells;
            return layers - 1;
        }

        // A cell never carries more than its past without raising it, so all that went by SOFT is what its past
        // has risen by, whichever way the cell came to what it carries.
        long unitsSunk(int cell, long carried, long past) {
            return hard[cell] * carried + (soft[cell] - hard[cell]) * (past - firstPast[cell]);
        }
    }

    /** The loads that were told, those that have come and those of days to come. */
    private static final class Loads {
        final int[] day = new int[MOST_LOADS];
        final int[] pascals = new int[MOST_LOADS];
        int many;
        long sum;

        int add(int itsDay, int itsPascals) {
            day[many] = itsDay;
            pascals[many] = itsPascals;
            sum += itsPascals;
            many++;
            return many;
        }

        long comingOn(int aDay) {
            long coming = 0;
            for (int i = 0; i < many; i++) {
                if (day[i] == aDay) {
                    coming += pascals[i];
                }
            }
            return coming;
        }
    }

    /** The state that changes as days go by; a second one serves to try out what would be. */
    private static final class Ground {
        final Soil soil;
        final Loads loads;
        final long[] pressure = new long[MOST_CELLS];
        final long[] past = new long[MOST_CELLS];
        int day;
        long come;
        long waterOut;

        Ground(Soil itsSoil, Loads itsLoads) {
            soil = itsSoil;
            loads = itsLoads;
        }

        void begin(int first, int more, int itsPast) {
            for (int cell = first; cell < first + more && cell < MOST_CELLS; cell++) {
                past[cell] = itsPast;
            }
        }

        void become(Ground other) {
            for (int cell = 0; cell < MOST_CELLS; cell++) {
                pressure[cell] = other.pressure[cell];
                past[cell] = other.past[cell];
            }
            day = other.day;
            come = other.come;
            waterOut = other.waterOut;
        }

        void lay(long pascals) {
            for (int cell = 0; cell < soil.cells; cell++) {
                pressure[cell] += pascals;
            }
            come += pascals;
        }

        void passDay() {
            lay(loads.comingOn(day));
            // A step in which nothing moves leaves all as it is, and so would those after it.
            boolean moving = true;
            for (int i = 0; i < STEPS_OF_A_DAY && moving; i++) {
                moving = moveWater();
                raisePasts();
            }
            day++;
        }

        // From above to below; a cell changes only when what goes to the next one has been reckoned from it.
        private boolean moveWater() {
            boolean moved = false;
            long fromAbove = -leavingAbove();
            waterOut -= fromAbove;
            for (int cell = 0; cell < soil.cells; cell++) {
                long toBelow = goingBelow(cell);
                long drained = pressure[cell] * soil.drain / THOUSAND;
                moved = moved || fromAbove != 0 || toBelow != 0 || drained != 0;
                pressure[cell] += fromAbove - toBelow - drained;
                waterOut += drained;
                fromAbove = toBelow;
            }
            waterOut += fromAbove;
            return moved;
        }

        private long leavingAbove() {
            return soil.drainedAbove ? pressure[0] * soil.leak[0] / THOUSAND : 0;
        }

        private long goingBelow(int cell) {
            if (cell + 1 < soil.cells) {
                return (pressure[cell] - pressure[cell + 1]) * soil.leakToNext[cell] / THOUSAND;
            }
            return soil.drainedBelow ? pressure[cell] * soil.leak[cell] / THOUSAND : 0;
        }

        private void raisePasts() {
            for (int cell = 0; cell < soil.cells; cell++) {
                past[cell] = Math.max(past[cell], carried(cell));
            }
        }

        long carried(int cell) {
            return come - pressure[cell];
        }

        long allPressures() {
            long sum = 0;
            for (int cell = 0; cell < soil.cells; cell++) {
                sum += pressure[cell];
            }
            return sum;
        }

        long unitsSunk() {
            return unitsSunk(0, soil.cells);
        }

        long unitsSunk(int first, int behindLast) {
            long units = 0;
            for (int cell = first; cell < behindLast; cell++) {
                units += soil.unitsSunk(cell, carried(cell), past[cell]);
            }
            return units;
        }

        long unitsAtEnd() {
            long units = 0;
            for (int cell = 0; cell < soil.cells; cell++) {
                units += soil.unitsSunk(cell, loads.sum, Math.max(past[cell], loads.sum));
            }
            return units;
        }
    }

    /** What was read, in the order of days, and what it foretells. */
    private static final class Readings {
        final int[] day = new int[MOST_READINGS];
        final long[] micrometres = new long[MOST_READINGS];
        int many;

        int firstFreeDay() {
            return many == 0 ? 0 : day[many - 1] + 1;
        }

        int add(int itsDay, long itsMicrometres) {
            day[many] = itsDay;
            micrometres[many] = itsMicrometres;
            many++;
            return many;
        }

        long foretellByLastThree() {
            if (many < 3) {
                return BAD;
            }
            long a = micrometres[many - 3];
            long b = micrometres[many - 2];
            long c = micrometres[many - 1];
            if (tooGreat(a) || tooGreat(b) || tooGreat(c)) {
                return BAD;
            }
            return quotient(b * b - a * c, 2 * b - a - c);
        }

        long foretellByLastTwo() {
            if (many < 2) {
                return BAD;
            }
            long a = micrometres[many - 2];
            long b = micrometres[many - 1];
            long s = day[many - 2];
            long t = day[many - 1];
            if (tooGreat(a) || tooGreat(b)) {
                return BAD;
            }
            return quotient((t - s) * a * b, t * a - s * b);
        }

        long foretellByFirstAndLast() {
            if (many < 2) {
                return BAD;
            }
            long first = micrometres[0];
            long last = micrometres[many - 1];
            long days = day[many - 1] - day[0];
            if (tooGreat(first) || tooGreat(last) || days == 0) {
                return BAD;
            }
            return last + (last - first) * DAYS_FORETOLD / days;
        }

        private static boolean tooGreat(long value) {
            return value > MOST_FORETELLING;
        }

        private static long quotient(long number, long divisor) {
            return divisor == 0 ? BAD : number / divisor;
        }
    }
}
