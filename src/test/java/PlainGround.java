import java.util.ArrayList;
import java.util.List;

/**
 * The document's Terms written down once more, word by word and apart from the class: each cell keeps what it has
 * sunk and adds to it step by step, each step is reckoned from a copy of what there was before it.
 */
final class PlainGround {
    private record Load(int day, int pascals) {
    }

    private static final class Cell {
        int layer;
        long leak;
        long hard;
        long soft;
        long past;
        long pressure;
        long carried;
        long units;

        Cell copy() {
            Cell c = new Cell();
            c.layer = layer;
            c.leak = leak;
            c.hard = hard;
            c.soft = soft;
            c.past = past;
            c.pressure = pressure;
            c.carried = carried;
            c.units = units;
            return c;
        }

        void carry(long amount) {
            if (amount > carried) {
                long beyond = Math.max(0, amount - Math.max(past, carried));
                units += (amount - carried - beyond) * hard + beyond * soft;
            } else {
                units -= (carried - amount) * hard;
            }
            carried = amount;
            past = Math.max(past, amount);
        }
    }

    final List<Cell> cells = new ArrayList<>();
    private final List<Load> loads = new ArrayList<>();
    private final List<Long> micrometres = new ArrayList<>(List.of(0L));
    int layers;
    int day;
    long come;
    long out;
    boolean above = true;
    boolean below;
    int drain;

    PlainGround copy() {
        PlainGround g = new PlainGround();
        for (Cell c : cells) {
            g.cells.add(c.copy());
        }
        g.loads.addAll(loads);
        g.layers = layers;
        g.day = day;
        g.come = come;
        g.out = out;
        g.above = above;
        g.below = below;
        g.drain = drain;
        return g;
    }

    void layer(int many, int leak, int hard, int soft, int past) {
        for (int i = 0; i < many; i++) {
            Cell c = new Cell();
            c.layer = layers;
            c.leak = leak;
            c.hard = hard;
            c.soft = soft;
            c.past = past;
            cells.add(c);
        }
        layers++;
    }

    void load(int itsDay, int pascals) {
        loads.add(new Load(itsDay, pascals));
    }

    int loads() {
        return loads.size();
    }

    void passDay() {
        for (Load l : loads) {
            if (l.day() == day) {
                lay(l.pascals());
            }
        }
        for (int step = 0; step < 24; step++) {
            step();
        }
        day++;
        micrometres.add(units(-1) / 1000);
    }

    private void lay(long pascals) {
        come += pascals;
        for (Cell c : cells) {
            c.pressure += pascals;
        }
    }

    private void step() {
        int n = cells.size();
        long[] before = new long[n];
        for (int i = 0; i < n; i++) {
            before[i] = cells.get(i).pressure;
        }
        for (int i = 0; i + 1 < n; i++) {
            long goes = (before[i] - before[i + 1]) * Math.min(cells.get(i).leak, cells.get(i + 1).leak) / 1000;
            cells.get(i).pressure -= goes;
            cells.get(i + 1).pressure += goes;
        }
        if (above) {
            leave(cells.get(0), before[0] * cells.get(0).leak / 1000);
        }
        if (below) {
            leave(cells.get(n - 1), before[n - 1] * cells.get(n - 1).leak / 1000);
        }
        for (int i = 0; i < n; i++) {
            leave(cells.get(i), before[i] * drain / 1000);
        }
        for (Cell c : cells) {
            c.carry(come - c.pressure);
        }
    }

    private void leave(Cell c, long water) {
        c.pressure -= water;
        out += water;
    }

    long units(int layer) {
        long units = 0;
        for (Cell c : cells) {
            if (layer == -1 || c.layer == layer) {
                units += c.units;
            }
        }
        return units;
    }

    long told(int cell, int what) {
        Cell c = cells.get(cell);
        return what == 0 ? c.pressure : what == 1 ? c.carried : c.past;
    }

    long end() {
        long all = 0;
        for (Load l : loads) {
            all += l.pascals();
        }
        long units = 0;
        for (Cell c : cells) {
            Cell last = c.copy();
            last.carry(all);
            units += last.units;
        }
        return units;
    }

    long share() {
        return end() == 0 ? 1000 : units(-1) * 1000 / end();
    }

    int until(int share) {
        PlainGround g = copy();
        for (int days = 0; days <= 300; days++) {
            if (g.share() >= share) {
                return days;
            }
            g.passDay();
        }
        return -1;
    }

    int surcharge(int step, int days) {
        for (int i = 0; i <= 20; i++) {
            PlainGround g = copy();
            g.load(day, i * step);
            for (int k = 0; k < days; k++) {
                g.passDay();
            }
            if (g.units(-1) >= end()) {
                return i * step;
            }
        }
        return -1;
    }

    boolean isOff(int aDay, long v, long limit) {
        return aDay <= day && Math.abs(v - micrometres.get(aDay)) > limit;
    }
}
