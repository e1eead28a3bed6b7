import java.util.ArrayList;
import java.util.List;

/**
 * The document once more, written down as plainly as can be and apart from the class: each throw
 * is a drop of its own, what would be is asked of a copy. The random runs compare the two.
 */
final class PlainModel {
    private static final class Refusal {
        static RuntimeException index() {
            return new IndexOutOfBoundsException();
        }

        static RuntimeException argument() {
            return new IllegalArgumentException();
        }

        static RuntimeException state() {
            return new IllegalStateException();
        }
    }

    private final List<int[]> pumps = new ArrayList<>(); // power, setting, drive, tripped, trips
    private final List<int[]> jets = new ArrayList<>(); // pump, place, nozzle, slant, set, stands, stuck, lamp, leaks, thrown
    private final List<List<int[]>> figures = new ArrayList<>(); // tick, jets, value
    private final List<List<int[]>> calls = new ArrayList<>(); // due, jets, value, shift
    private final List<int[]> drops = new ArrayList<>(); // due, place, much
    private int now;
    private int water = 3000;
    private int spilt;
    private int lost;
    private int wet;
    private int energy;
    private int faults;
    private int dangers;
    private int wind;
    private int gust;
    private boolean swims;

    private PlainModel copy() {
        PlainModel m = new PlainModel();
        pumps.forEach(row -> m.pumps.add(row.clone()));
        jets.forEach(row -> m.jets.add(row.clone()));
        m.figures.addAll(figures);
        m.calls.addAll(calls);
        m.drops.addAll(drops);
        m.now = now;
        m.water = water;
        m.spilt = spilt;
        m.lost = lost;
        m.wet = wet;
        m.energy = energy;
        m.faults = faults;
        m.dangers = dangers;
        m.wind = wind;
        m.gust = gust;
        m.swims = swims;
        return m;
    }

    private static boolean in(int value, int low, int high) {
        return low <= value && value <= high;
    }

    private void needPump(int pump) {
        if (!in(pump, 0, pumps.size() - 1)) {
            throw Refusal.index();
        }
    }

    private void needJet(int jet) {
        if (!in(jet, 0, jets.size() - 1)) {
            throw Refusal.index();
        }
    }

    private void needFigure(int figure) {
        if (!in(figure, 0, figures.size() - 1)) {
            throw Refusal.index();
        }
    }

    private static void need(boolean isSo) {
        if (!isSo) {
            throw Refusal.argument();
        }
    }

    private static void allow(boolean isSo) {
        if (!isSo) {
            throw Refusal.state();
        }
    }

    int pump(int power) {
        need(in(power, 10, 60));
        allow(pumps.size() < 3);
        pumps.add(new int[] {power, 0, 0, 0, 0});
        return pumps.size() - 1;
    }

    int jet(int pump, int place, int nozzle, int slant) {
        needPump(pump);
        need(in(place, 0, 19) && in(nozzle, 1, 5) && in(slant, -3, 3));
        allow(jets.size() < 10);
        jets.add(new int[] {pump, place, nozzle, slant, 0, 0, 0, 0, 0, 0});
        return jets.size() - 1;
    }

    int figure() {
        allow(figures.size() < 5);
        figures.add(new ArrayList<>());
        return figures.size() - 1;
    }

    int step(int figure, int tick, int set, int value) {
        needFigure(figure);
        need(in(tick, 0, 99) && in(set, 1, 1023) && (in(value, 0, 6) || in(value, 10, 20)));
        allow(figures.get(figure).size() < 8);
        figures.get(figure).add(new int[] {tick, set, value});
        return figures.get(figure).size();
    }

    int wind(int to, int on) {
        need(in(to, -4, 4) && in(on, 0, 2));
        int before = wind;
        wind = to;
        gust = on;
        return before;
    }

    int valve(int jet, int to) {
        needJet(jet);
        need(in(to, 0, 4));
        allow(!swims);
        int before = jets.get(jet)[4];
        jets.get(jet)[4] = to;
        return before;
    }

    int setting(int pump, int to) {
        needPump(pump);
        need(in(to, 0, 10));
        allow(!swims && pumps.get(pump)[3] == 0);
        int before = pumps.get(pump)[1];
        pumps.get(pump)[1] = to;
        return before;
    }

    int reset(int pump) {
        needPump(pump);
        allow(pumps.get(pump)[3] == 1 && water >= 300);
        pumps.get(pump)[3] = 0;
        return pumps.get(pump)[4];
    }

    boolean lamp(int jet, boolean isOn) {
        needJet(jet);
        boolean before = jets.get(jet)[7] == 1;
        jets.get(jet)[7] = isOn ? 1 : 0;
        return before;
    }

    boolean fault(int jet, boolean isStuck, boolean leaks) {
        needJet(jet);
        boolean before = jets.get(jet)[6] == 1;
        jets.get(jet)[6] = isStuck ? 1 : 0;
        jets.get(jet)[8] = leaks ? 1 : 0;
        return before;
    }

    boolean swim(boolean is) {
        boolean before = swims;
        swims = is;
        if (is) {
            pumps.forEach(row -> row[1] = 0);
            jets.forEach(row -> row[4] = 0);
            jets.forEach(row -> row[7] = 0);
        }
        return before;
    }

    int fill(int much) {
        need(in(much, 1, 5000));
        rise(much);
        return water;
    }

    int call(int figure, int shift) {
        needFigure(figure);
        need(in(shift, 0, 9));
        allow(calls.size() < 20);
        List<int[]> due = new ArrayList<>();
        figures.get(figure).forEach(row -> due.add(new int[] {now + row[0] + 1, row[1], row[2], shift}));
        calls.add(due);
        return calls.size() - 1;
    }

    int pass(int ticks) {
        need(in(ticks, 1, 100));
        allow(now + ticks <= 5000);
        int sum = 0;
        for (int t = 0; t < ticks; t++) {
            sum += tick();
        }
        return sum;
    }

    private void rise(int much) {
        spilt += Math.max(0, water + much - 9000);
        water = Math.min(9000, water + much);
    }

    private int tick() {
        now++;
        for (List<int[]> call : calls) {
            for (int[] row : call) {
                if (row[0] == now && !swims) {
                    obey(row[1], row[2], row[3]);
                }
            }
        }
        for (int[] row : pumps) {
            row[2] += row[3] == 1 ? 0 : Integer.compare(row[1], row[2]);
        }
        for (int[] row : jets) {
            row[5] += row[6] == 1 ? 0 : Integer.compare(row[4], row[5]);
        }
        int sum = comeDown();
        for (int j = 0; j < jets.size(); j++) {
            if (height(j) > 0) {
                int much = Math.min(water, flow(j));
                water -= much;
                jets.get(j)[9] += much;
                drops.add(new int[] {now + 2 + height(j) / 10, landing(j), much});
            }
        }
        pumps.forEach(row -> energy += row[2] * row[2]);
        jets.forEach(row -> energy += row[7]);
        if (water < 300) {
            for (int[] row : pumps) {
                if (row[2] > 0) {
                    row[1] = 0;
                    row[2] = 0;
                    row[3] = 1;
                    row[4]++;
                }
            }
        }
        long shorted = jets.stream().filter(row -> row[7] == 1 && row[8] == 1).count();
        if (shorted > 0) {
            jets.forEach(row -> row[7] = 0);
            faults += (int) shorted;
            dangers += swims ? 1 : 0;
        }
        return sum;
    }

    private void obey(int set, int value, int shift) {
        for (int j = 0; j < 10; j++) {
            if (j < jets.size() && (set / (1 << j)) % 2 == 1) {
                int[] row = jets.get((j + shift) % jets.size());
                if (value <= 4) {
                    row[4] = value;
                } else if (value == 5) {
                    row[7] = 1;
                } else if (value == 6) {
                    row[7] = 0;
                } else if (pumps.get(row[0])[3] == 0) {
                    pumps.get(row[0])[1] = value - 10;
                }
            }
        }
    }

    private int comeDown() {
        int sum = 0;
        for (int[] drop : new ArrayList<>(drops)) {
            if (drop[0] == now) {
                drops.remove(drop);
                sum += drop[2];
                if (in(drop[1], 0, 19)) {
                    rise(drop[2]);
                } else {
                    lost += drop[2];
                    wet += in(drop[1], -4, -1) || in(drop[1], 20, 23) ? drop[2] : 0;
                }
            }
        }
        return sum;
    }

    private int flow(int jet) {
        return jets.get(jet)[2] * jets.get(jet)[5];
    }

    private int pressure(int pump) {
        int below = 20;
        for (int j = 0; j < jets.size(); j++) {
            below += jets.get(j)[0] == pump ? flow(j) : 0;
        }
        return 10 * pumps.get(pump)[2] * pumps.get(pump)[0] / below;
    }

    private int height(int jet) {
        int[] row = jets.get(jet);
        return flow(jet) == 0 ? 0 : Math.min(60, pressure(row[0]) * row[5] / 4);
    }

    private int landing(int jet) {
        int[] row = jets.get(jet);
        int strength = wind == 0 ? 0 : wind > 0 ? wind + gust : wind - gust;
        int air = 2 + height(jet) / 10;
        return row[1] + (int) Math.floor(row[3] * height(jet) / 10.0) + (int) Math.floor(strength * air / 2.0);
    }

    int ofPump(int pump, int what) {
        needPump(pump);
        need(in(what, 0, 6));
        int[] row = pumps.get(pump);
        int set = 0;
        for (int j = 0; j < jets.size(); j++) {
            set += jets.get(j)[0] == pump ? 1 << j : 0;
        }
        return new int[] {row[0], row[1], row[2], pressure(pump), row[3], set, row[4]}[what];
    }

    int ofJet(int jet, int what) {
        needJet(jet);
        need(in(what, 0, 11));
        int[] row = jets.get(jet);
        int[] all = {row[0], row[1], row[2], row[3], row[4], row[5], row[6], flow(jet), height(jet), row[7], row[9], landing(jet)};
        return all[what];
    }

    int falls(int ticks) {
        need(in(ticks, 1, 8));
        return drops.stream().filter(drop -> drop[0] == now + ticks).mapToInt(drop -> drop[2]).sum();
    }

    int open(int call) {
        if (!in(call, 0, calls.size() - 1)) {
            throw Refusal.index();
        }
        return (int) calls.get(call).stream().filter(row -> row[0] > now).count();
    }

    int many(int what) {
        need(in(what, 0, 15));
        int air = drops.stream().mapToInt(drop -> drop[2]).sum();
        int greatest = 0;
        int lamps = 0;
        for (int j = 0; j < jets.size(); j++) {
            greatest = Math.max(greatest, height(j));
            lamps += jets.get(j)[7] << j;
        }
        int[] all = {now, pumps.size(), jets.size(), figures.size(), calls.size(), water, air, lost, spilt, wet,
            energy, faults, dangers, greatest, lamps, swims ? 1 : 0};
        return all[what];
    }

    double meanHeight() {
        double sum = 0;
        for (int j = 0; j < jets.size(); j++) {
            sum += height(j);
        }
        return jets.isEmpty() ? 0 : sum / jets.size();
    }

    int heightIn(int jet, int ticks) {
        needJet(jet);
        need(in(ticks, 1, 40));
        PlainModel m = copy();
        for (int t = 0; t < ticks; t++) {
            m.tick();
        }
        return m.height(jet);
    }

    int settingFor(int jet, int height) {
        needJet(jet);
        need(in(height, 1, 60));
        PlainModel m = copy();
        m.jets.forEach(row -> row[5] = row[4]);
        for (int s = 0; s <= 10; s++) {
            m.pumps.get(m.jets.get(jet)[0])[2] = s;
            if (m.height(jet) >= height) {
                return s;
            }
        }
        return -1;
    }

    int leadFor(int jet, int height) {
        int setting = settingFor(jet, height);
        PlainModel m = copy();
        int[] pump = m.pumps.get(m.jets.get(jet)[0]);
        if (setting < 0 || pump[3] == 1) {
            return -1;
        }
        pump[1] = setting;
        int lead = 0;
        while (lead <= 30 && m.height(jet) < height) {
            m.tick();
            lead++;
        }
        return lead <= 30 ? lead : -1;
    }

    int would(int ticks, int what) {
        need(in(ticks, 1, 60) && in(what, 0, 1));
        PlainModel m = copy();
        int least = Integer.MAX_VALUE;
        for (int t = 0; t < ticks; t++) {
            m.tick();
            least = Math.min(least, m.water);
        }
        return what == 0 ? m.wet - wet : least;
    }

    long digest() {
        List<Integer> all = new ArrayList<>();
        for (int what = 0; what < 16; what++) {
            all.add(many(what));
        }
        for (int p = 0; p < pumps.size(); p++) {
            for (int what = 0; what < 7; what++) {
                all.add(ofPump(p, what));
            }
        }
        for (int j = 0; j < jets.size(); j++) {
            for (int what = 0; what < 12; what++) {
                all.add(ofJet(j, what));
            }
            all.add(heightIn(j, 5));
            all.add(settingFor(j, 20));
            all.add(leadFor(j, 20));
        }
        for (int ticks = 1; ticks <= 8; ticks++) {
            all.add(falls(ticks));
        }
        for (int c = 0; c < calls.size(); c++) {
            all.add(open(c));
        }
        all.add(would(12, 0));
        all.add(would(12, 1));
        long d = 9115;
        for (int v : all) {
            d = d * 31 + v;
        }
        return d;
    }
}
