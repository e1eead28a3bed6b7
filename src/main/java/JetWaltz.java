import java.util.ArrayList;

/** Fountains that dance: a basin with pumps, jets and lamps, and the figures that are called. */
public final class JetWaltz {
    private static final int NONE = -1;

    private static final int MOST_PUMPS = 3;
    private static final int MOST_JETS = 10;
    private static final int MOST_FIGURES = 5;
    private static final int MOST_STEPS = 8;
    private static final int MOST_CALLS = 20;

    private static final int LAST_PLACE = 19;
    private static final int CROWD_WIDTH = 4;
    private static final int WATER_AT_FIRST = 3000;
    private static final int MOST_WATER = 9000;
    private static final int LEAST_WATER_TO_PUMP = 300;
    private static final int MOST_HEIGHT = 60;
    private static final int MOST_SETTING = 10;
    private static final int MOST_VALVE = 4;
    private static final int LAST_NOW = 5000;
    private static final int LAST_LEAD = 30;

    /** The AIR time of the greatest HEIGHT. */
    private static final int MOST_AIR_TIME = 8;

    private static final int LAMPS_GO_ON = 5;
    private static final int LAMPS_GO_OFF = 6;
    private static final int SETTING_OF_0 = 10;
    private static final int SETTING_OF_10 = 20;

    private final ArrayList<Figure> figures;

    /** What is. */
    private final Show show;

    /** What would be: told the same things as the show, and made equal to it before each use. */
    private final Show trial;

    public JetWaltz() {
        figures = new ArrayList<Figure>();
        show = new Show();
        trial = new Show();
    }

    // ---- what is told

    public int pump(int power) throws IllegalArgumentException, IllegalStateException {
        if (power < 10 || power > 60) {
            throw new IllegalArgumentException("power is not 10 to 60");
        }
        int number = show.pumps.size();
        if (number >= MOST_PUMPS) {
            throw new IllegalStateException("there are 3 PUMPS");
        }
        show.pumps.add(new Pump(number, power));
        trial.pumps.add(new Pump(number, power));
        return number;
    }

    public int jet(int pump, int place, int nozzle, int slant)
            throws IndexOutOfBoundsException, IllegalArgumentException, IllegalStateException {
        pumpNumbered(pump);
        if (place < 0 || place > LAST_PLACE || nozzle < 1 || nozzle > 5 || slant < -3 || slant > 3) {
            throw new IllegalArgumentException("place is not 0 to 19, nozzle not 1 to 5, or slant not -3 to 3");
        }
        int number = show.jets.size();
        if (number >= MOST_JETS) {
            throw new IllegalStateException("there are 10 JETS");
        }
        show.addJet(pump, place, nozzle, slant);
        trial.addJet(pump, place, nozzle, slant);
        return number;
    }

    public int figure() throws IllegalStateException {
        int number = figures.size();
        if (number >= MOST_FIGURES) {
            throw new IllegalStateException("there are 5 FIGURES");
        }
        figures.add(new Figure());
        return number;
    }

    public int step(int figure, int tick, int jets, int value)
            throws IndexOutOfBoundsException, IllegalArgumentException, IllegalStateException {
        Figure its = figureNumbered(figure);
        if (tick < 0 || tick > 99 || jets < 1 || jets > 1023 || !isValue(value)) {
            throw new IllegalArgumentException(
                    "tick is not 0 to 99, jets not 1 to 1023, or value not 0 to 6 or 10 to 20");
        }
        if (its.steps.size() >= MOST_STEPS) {
            throw new IllegalStateException("the FIGURE has 8 STEPS");
        }
        its.steps.add(new Step(tick, jets, value));
        return its.steps.size();
    }

    public int wind(int wind, int gust) throws IllegalArgumentException {
        if (wind < -4 || wind > 4 || gust < 0 || gust > 2) {
            throw new IllegalArgumentException("wind is not -4 to 4, or gust not 0 to 2");
        }
        int before = show.wind;
        show.wind = wind;
        show.gust = gust;
        return before;
    }

    // ---- what is done

    public int valve(int jet, int to)
            throws IndexOutOfBoundsException, IllegalArgumentException, IllegalStateException {
        Jet its = jetNumbered(jet);
        if (to < 0 || to > MOST_VALVE) {
            throw new IllegalArgumentException("to is not 0 to 4");
        }
        if (show.isSwum) {
            throw new IllegalStateException("somebody swims");
        }
        int before = its.valveSet;
        its.valveSet = to;
        return before;
    }

    public int setting(int pump, int to)
            throws IndexOutOfBoundsException, IllegalArgumentException, IllegalStateException {
        Pump its = pumpNumbered(pump);
        if (to < 0 || to > MOST_SETTING) {
            throw new IllegalArgumentException("to is not 0 to 10");
        }
        if (show.isSwum || its.isTripped) {
            throw new IllegalStateException("somebody swims, or the PUMP is TRIPPED");
        }
        int before = its.setting;
        its.setTo(to);
        return before;
    }

    public int reset(int pump) throws IndexOutOfBoundsException, IllegalStateException {
        Pump its = pumpNumbered(pump);
        if (!its.isTripped || show.water < LEAST_WATER_TO_PUMP) {
            throw new IllegalStateException("the PUMP is not TRIPPED, or there is less WATER than 300");
        }
        its.isTripped = false;
        return its.trips;
    }

    public boolean lamp(int jet, boolean isOn) throws IndexOutOfBoundsException {
        Jet its = jetNumbered(jet);
        boolean before = its.isLampOn;
        its.isLampOn = isOn;
        return before;
    }

    public boolean fault(int jet, boolean isStuck, boolean leaks) throws IndexOutOfBoundsException {
        Jet its = jetNumbered(jet);
        boolean before = its.isStuck;
        its.isStuck = isStuck;
        its.leaks = leaks;
        return before;
    }

    public boolean swim(boolean is) {
        boolean before = show.isSwum;
        show.isSwum = is;
        if (is) {
            show.shutAll();
        }
        return before;
    }

    public int fill(int much) throws IllegalArgumentException {
        if (much < 1 || much > 5000) {
            throw new IllegalArgumentException("much is not 1 to 5000");
        }
        show.pour(much);
        return show.water;
    }

    public int call(int figure, int shift)
            throws IndexOutOfBoundsException, IllegalArgumentException, IllegalStateException {
        Figure its = figureNumbered(figure);
        if (shift < 0 || shift > 9) {
            throw new IllegalArgumentException("shift is not 0 to 9");
        }
        int number = show.calls.size();
        if (number >= MOST_CALLS) {
            throw new IllegalStateException("there were 20 CALLS");
        }
        Call made = new Call(its.stepsNow(), shift, show.now);
        show.calls.add(made);
        trial.calls.add(made);
        return number;
    }

    public int pass(int ticks) throws IllegalArgumentException, IllegalStateException {
        if (ticks < 1 || ticks > 100) {
            throw new IllegalArgumentException("ticks is not 1 to 100");
        }
        if (show.now + ticks > LAST_NOW) {
            throw new IllegalStateException("NOW would be above 5000");
        }
        int cameDown = 0;
        for (int t = 0; t < ticks; t++) {
            cameDown += show.tick();
        }
        return cameDown;
    }

    // ---- what one asks

    public int ofPump(int pump, int what) throws IndexOutOfBoundsException, IllegalArgumentException {
        Pump its = pumpNumbered(pump);
        switch (what) {
            case 0:
                return its.power;
            case 1:
                return its.setting;
            case 2:
                return its.drive;
            case 3:
                return show.pressureOf(its);
            case 4:
                return its.isTripped ? 1 : 0;
            case 5:
                return show.jetsOf(its);
            case 6:
                return its.trips;
            default:
                throw new IllegalArgumentException("what is not 0 to 6");
        }
    }

    public int ofJet(int jet, int what) throws IndexOutOfBoundsException, IllegalArgumentException {
        Jet its = jetNumbered(jet);
        switch (what) {
            case 0:
                return its.pump.number;
            case 1:
                return its.place;
            case 2:
                return its.nozzle;
            case 3:
                return its.slant;
            case 4:
                return its.valveSet;
            case 5:
                return its.valve;
            case 6:
                return its.isStuck ? 1 : 0;
            case 7:
                return its.flow();
            case 8:
                return show.heightOf(its);
            case 9:
                return its.isLampOn ? 1 : 0;
            case 10:
                return its.thrown;
            case 11:
                return show.placeOfFall(its, show.heightOf(its));
            default:
                throw new IllegalArgumentException("what is not 0 to 11");
        }
    }

    public int falls(int ticks) throws IllegalArgumentException {
        if (ticks < 1 || ticks > MOST_AIR_TIME) {
            throw new IllegalArgumentException("ticks is not 1 to 8");
        }
        return show.air.fallingIn(show.now + ticks);
    }

    public int open(int call) throws IndexOutOfBoundsException {
        if (call < 0 || call >= show.calls.size()) {
            throw new IndexOutOfBoundsException("there was no such CALL");
        }
        return show.calls.get(call).stepsDueAfter(show.now);
    }

    public int many(int what) throws IllegalArgumentException {
        switch (what) {
            case 0:
                return show.now;
            case 1:
                return show.pumps.size();
            case 2:
                return show.jets.size();
            case 3:
                return figures.size();
            case 4:
                return show.calls.size();
            case 5:
                return show.water;
            case 6:
                return show.air.all();
            case 7:
                return show.lost;
            case 8:
                return show.spilt;
            case 9:
                return show.wet;
            case 10:
                return show.energy;
            case 11:
                return show.faults;
            case 12:
                return show.dangers;
            case 13:
                return show.greatestHeight();
            case 14:
                return show.lampsOn();
            case 15:
                return show.isSwum ? 1 : 0;
            default:
                throw new IllegalArgumentException("what is not 0 to 15");
        }
    }

    public double meanHeight() {
        int count = show.jets.size();
        if (count == 0) {
            return 0.0;
        }
        return (double) show.sumOfHeights() / count;
    }

    // ---- what would be

    public int heightIn(int jet, int ticks) throws IndexOutOfBoundsException, IllegalArgumentException {
        jetNumbered(jet);
        if (ticks < 1 || ticks > 40) {
            throw new IllegalArgumentException("ticks is not 1 to 40");
        }
        trial.becomeLike(show);
        for (int t = 0; t < ticks; t++) {
            trial.tick();
        }
        return trial.heightOfNumber(jet);
    }

    public int settingFor(int jet, int height) throws IndexOutOfBoundsException, IllegalArgumentException {
        Jet its = jetNumbered(jet);
        if (height < 1 || height > MOST_HEIGHT) {
            throw new IllegalArgumentException("height is not 1 to 60");
        }
        int flows = show.flowsAsSet(its.pump);
        for (int setting = 0; setting <= MOST_SETTING; setting++) {
            int pressure = pressureBy(setting, its.pump.power, flows);
            if (heightBy(pressure, its.valveSet) >= height) {
                return setting;
            }
        }
        return NONE;
    }

    public int leadFor(int jet, int height) throws IndexOutOfBoundsException, IllegalArgumentException {
        Pump pump = jetNumbered(jet).pump;
        // It refuses the same HEIGHTS as this call does.
        int setting = settingFor(jet, height);
        if (setting == NONE || pump.isTripped) {
            return NONE;
        }
        trial.becomeLike(show);
        trial.setPumpOfNumber(pump.number, setting);
        for (int lead = 0; lead <= LAST_LEAD; lead++) {
            if (trial.heightOfNumber(jet) >= height) {
                return lead;
            }
            trial.tick();
        }
        return NONE;
    }

    public int would(int ticks, int what) throws IllegalArgumentException {
        if (ticks < 1 || ticks > 60 || what < 0 || what > 1) {
            throw new IllegalArgumentException("ticks is not 1 to 60, or what not 0 or 1");
        }
        trial.becomeLike(show);
        int leastWater = MOST_WATER;
        for (int t = 0; t < ticks; t++) {
            trial.tick();
            leastWater = Math.min(leastWater, trial.water);
        }
        return what == 0 ? trial.wet - show.wet : leastWater;
    }

    public long digest() {
        long d = 9115;
        for (int what = 0; what <= 15; what++) {
            d = d * 31 + many(what);
        }
        for (int p = 0; p < show.pumps.size(); p++) {
            for (int what = 0; what <= 6; what++) {
                d = d * 31 + ofPump(p, what);
            }
        }
        for (int j = 0; j < show.jets.size(); j++) {
            for (int what = 0; what <= 11; what++) {
                d = d * 31 + ofJet(j, what);
            }
            d = d * 31 + heightIn(j, 5);
            d = d * 31 + settingFor(j, 20);
            d = d * 31 + leadFor(j, 20);
        }
        for (int ticks = 1; ticks <= MOST_AIR_TIME; ticks++) {
            d = d * 31 + falls(ticks);
        }
        for (int c = 0; c < show.calls.size(); c++) {
            d = d * 31 + open(c);
        }
        d = d * 31 + would(12, 0);
        d = d * 31 + would(12, 1);
        return d;
    }

    // ---- what the calls above share

    private Pump pumpNumbered(int number) throws IndexOutOfBoundsException {
        if (number < 0 || number >= show.pumps.size()) {
            throw new IndexOutOfBoundsException("there is no such PUMP");
        }
        return show.pumps.get(number);
    }

    private Jet jetNumbered(int number) throws IndexOutOfBoundsException {
        if (number < 0 || number >= show.jets.size()) {
            throw new IndexOutOfBoundsException("there is no such JET");
        }
        return show.jets.get(number);
    }

    private Figure figureNumbered(int number) throws IndexOutOfBoundsException {
        if (number < 0 || number >= figures.size()) {
            throw new IndexOutOfBoundsException("there is no such FIGURE");
        }
        return figures.get(number);
    }

    private static boolean isValue(int value) {
        return value >= 0 && value <= LAMPS_GO_OFF || value >= SETTING_OF_0 && value <= SETTING_OF_10;
    }

    private static int pressureBy(int drive, int power, int flows) {
        int load = 20 + flows;
        return load > 0 ? 10 * drive * power / load : 0;
    }

    /** Without a FLOW the VALVE stands at 0, since no NOZZLE is 0; so the HEIGHT is 0 then, too. */
    private static int heightBy(int pressure, int valve) {
        return Math.min(MOST_HEIGHT, pressure * valve / 4);
    }

    private static int airTime(int height) {
        return 2 + height / 10;
    }

    /** The number that is 1 nearer to the goal than from, or the goal itself. */
    private static int nearer(int from, int goal) {
        return from < goal ? from + 1 : from > goal ? from - 1 : goal;
    }

    private static final class Pump {
        final int number;
        final int power;
        int setting;
        int drive;
        boolean isTripped;
        int trips;

        Pump(int number, int power) {
            this.number = number;
            this.power = power;
        }

        /** A TRIPPED PUMP keeps its SETTING of 0, whoever tells another. */
        void setTo(int to) {
            if (!isTripped) {
                setting = to;
            }
        }

        void turn() {
            if (!isTripped) {
                drive = nearer(drive, setting);
            }
        }

        void trip() {
            isTripped = true;
            trips++;
            drive = 0;
            setting = 0;
        }

        void becomeLike(Pump other) {
            setting = other.setting;
            drive = other.drive;
            isTripped = other.isTripped;
            trips = other.trips;
        }
    }

    private static final class Jet {
        final Pump pump;
        final int place;
        final int nozzle;
        final int slant;
        int valveSet;
        int valve;
        boolean isStuck;
        boolean isLampOn;
        boolean leaks;
        int thrown;

        Jet(Pump pump, int place, int nozzle, int slant) {
            this.pump = pump;
            this.place = place;
            this.nozzle = nozzle;
            this.slant = slant;
        }

        int flow() {
            return nozzle * valve;
        }

        void turn() {
            if (!isStuck) {
                valve = nearer(valve, valveSet);
            }
        }

        boolean isShorted() {
            return isLampOn && leaks;
        }

        void obey(int value) {
            if (value >= SETTING_OF_0) {
                pump.setTo(value - SETTING_OF_0);
            } else if (value >= LAMPS_GO_ON) {
                isLampOn = value == LAMPS_GO_ON;
            } else {
                valveSet = value;
            }
        }

        void becomeLike(Jet other) {
            valveSet = other.valveSet;
            valve = other.valve;
            isStuck = other.isStuck;
            isLampOn = other.isLampOn;
            leaks = other.leaks;
            thrown = other.thrown;
        }
    }

    private static final class Step {
        final int tick;
        final int jets;
        final int value;

        Step(int tick, int jets, int value) {
            this.tick = tick;
            this.jets = jets;
            this.value = value;
        }

        boolean names(int jet) {
            return (jets >> jet & 1) == 1;
        }
    }

    private static final class Figure {
        final ArrayList<Step> steps = new ArrayList<Step>();

        /** A row of its own, since the FIGURE may get more STEPS later. */
        ArrayList<Step> stepsNow() {
            ArrayList<Step> row = new ArrayList<Step>();
            for (int s = 0; s < steps.size(); s++) {
                row.add(steps.get(s));
            }
            return row;
        }
    }

    private static final class Call {
        final ArrayList<Step> steps;
        final int shift;
        final int calledAt;

        Call(ArrayList<Step> steps, int shift, int calledAt) {
            this.steps = steps;
            this.shift = shift;
            this.calledAt = calledAt;
        }

        int dueOf(Step step) {
            return calledAt + step.tick + 1;
        }

        int stepsDueAfter(int now) {
            int count = 0;
            for (int s = 0; s < steps.size(); s++) {
                if (dueOf(steps.get(s)) > now) {
                    count++;
                }
            }
            return count;
        }
    }

    /**
     * The water in the air, by the tick in which it falls and by whose it will be. What falls in
     * one tick is kept as sums: the order in which it comes down changes neither WATER nor SPILT.
     */
    private static final class Air {
        /** One more than the longest AIR time, so that no two ticks ahead share a slot. */
        static final int SLOTS = MOST_AIR_TIME + 1;

        private final int[] basin = new int[SLOTS];
        private final int[] crowd = new int[SLOTS];
        private final int[] beyond = new int[SLOTS];

        private static int slotOf(int tick) {
            return Math.floorMod(tick, SLOTS);
        }

        void put(int tick, int place, int much) {
            int slot = slotOf(tick);
            if (place >= 0 && place <= LAST_PLACE) {
                basin[slot] += much;
            } else if (place >= -CROWD_WIDTH && place <= LAST_PLACE + CROWD_WIDTH) {
                crowd[slot] += much;
            } else {
                beyond[slot] += much;
            }
        }

        int fallingIn(int tick) {
            int slot = slotOf(tick);
            return basin[slot] + crowd[slot] + beyond[slot];
        }

        int fallingOnBasin(int tick) {
            return basin[slotOf(tick)];
        }

        int fallingOnCrowd(int tick) {
            return crowd[slotOf(tick)];
        }

        void clear(int tick) {
            int slot = slotOf(tick);
            basin[slot] = 0;
            crowd[slot] = 0;
            beyond[slot] = 0;
        }

        int all() {
            int sum = 0;
            for (int slot = 0; slot < SLOTS; slot++) {
                sum += basin[slot] + crowd[slot] + beyond[slot];
            }
            return sum;
        }

        void becomeLike(Air other) {
            System.arraycopy(other.basin, 0, basin, 0, SLOTS);
            System.arraycopy(other.crowd, 0, crowd, 0, SLOTS);
            System.arraycopy(other.beyond, 0, beyond, 0, SLOTS);
        }
    }

    /** All that a tick changes, and the CALLS that it looks at. */
    private static final class Show {
        final ArrayList<Pump> pumps = new ArrayList<Pump>();
        final ArrayList<Jet> jets = new ArrayList<Jet>();
        final ArrayList<Call> calls = new ArrayList<Call>();
        final Air air = new Air();
        int now;
        int water = WATER_AT_FIRST;
        int spilt;
        int lost;
        int wet;
        int energy;
        int faults;
        int dangers;
        int wind;
        int gust;
        boolean isSwum;

        void addJet(int pump, int place, int nozzle, int slant) {
            if (pump >= 0 && pump < pumps.size()) {
                jets.add(new Jet(pumps.get(pump), place, nozzle, slant));
            }
        }

        void setPumpOfNumber(int pump, int setting) {
            if (pump >= 0 && pump < pumps.size()) {
                pumps.get(pump).setTo(setting);
            }
        }

        int heightOfNumber(int jet) {
            return jet >= 0 && jet < jets.size() ? heightOf(jets.get(jet)) : 0;
        }

        /** Lets one tick go by; answers how much water came down in it. */
        int tick() {
            now++;
            if (!isSwum) {
                doStepsDue();
            }
            turnDrivesAndValves();
            int cameDown = letFall();
            throwWater();
            useEnergy();
            tripPumpsRunningDry();
            shortLamps();
            return cameDown;
        }

        private void doStepsDue() {
            for (int c = 0; c < calls.size(); c++) {
                Call call = calls.get(c);
                for (int s = 0; s < call.steps.size(); s++) {
                    Step step = call.steps.get(s);
                    if (call.dueOf(step) == now) {
                        doStep(step, call.shift);
                    }
                }
            }
        }

        private void doStep(Step step, int shift) {
            int count = jets.size();
            for (int j = 0; j < count; j++) {
                if (step.names(j)) {
                    jets.get(Math.floorMod(j + shift, count)).obey(step.value);
                }
            }
        }

        private void turnDrivesAndValves() {
            for (int p = 0; p < pumps.size(); p++) {
                pumps.get(p).turn();
            }
            for (int j = 0; j < jets.size(); j++) {
                jets.get(j).turn();
            }
        }

        private int letFall() {
            int cameDown = air.fallingIn(now);
            int onBasin = air.fallingOnBasin(now);
            pour(onBasin);
            wet += air.fallingOnCrowd(now);
            lost += cameDown - onBasin;
            air.clear(now);
            return cameDown;
        }

        private void throwWater() {
            for (int j = 0; j < jets.size(); j++) {
                Jet jet = jets.get(j);
                int height = heightOf(jet);
                if (height > 0) {
                    int much = Math.min(jet.flow(), water);
                    water -= much;
                    jet.thrown += much;
                    air.put(now + airTime(height), placeOfFall(jet, height), much);
                }
            }
        }

        private void useEnergy() {
            for (int p = 0; p < pumps.size(); p++) {
                int drive = pumps.get(p).drive;
                energy += drive * drive;
            }
            energy += Integer.bitCount(lampsOn());
        }

        private void tripPumpsRunningDry() {
            if (water >= LEAST_WATER_TO_PUMP) {
                return;
            }
            for (int p = 0; p < pumps.size(); p++) {
                if (pumps.get(p).drive > 0) {
                    pumps.get(p).trip();
                }
            }
        }

        private void shortLamps() {
            int shorted = 0;
            for (int j = 0; j < jets.size(); j++) {
                if (jets.get(j).isShorted()) {
                    shorted++;
                }
            }
            if (shorted == 0) {
                return;
            }
            faults += shorted;
            if (isSwum) {
                dangers++;
            }
            lampsOff();
        }

        private void lampsOff() {
            for (int j = 0; j < jets.size(); j++) {
                jets.get(j).isLampOn = false;
            }
        }

        void shutAll() {
            for (int p = 0; p < pumps.size(); p++) {
                pumps.get(p).setTo(0);
            }
            for (int j = 0; j < jets.size(); j++) {
                jets.get(j).valveSet = 0;
            }
            lampsOff();
        }

        void pour(int much) {
            water += much;
            if (water > MOST_WATER) {
                spilt += water - MOST_WATER;
                water = MOST_WATER;
            }
        }

        int pressureOf(Pump pump) {
            int flows = 0;
            for (int j = 0; j < jets.size(); j++) {
                Jet jet = jets.get(j);
                if (jet.pump == pump) {
                    flows += jet.flow();
                }
            }
            return pressureBy(pump.drive, pump.power, flows);
        }

        /** The FLOWS of a PUMP if all its VALVES stood at what they are SET to. */
        int flowsAsSet(Pump pump) {
            int flows = 0;
            for (int j = 0; j < jets.size(); j++) {
                Jet jet = jets.get(j);
                if (jet.pump == pump) {
                    flows += jet.nozzle * jet.valveSet;
                }
            }
            return flows;
        }

        int jetsOf(Pump pump) {
            int set = 0;
            for (int j = 0; j < jets.size(); j++) {
                if (jets.get(j).pump == pump) {
                    set |= 1 << j;
                }
            }
            return set;
        }

        int lampsOn() {
            int set = 0;
            for (int j = 0; j < jets.size(); j++) {
                if (jets.get(j).isLampOn) {
                    set |= 1 << j;
                }
            }
            return set;
        }

        int heightOf(Jet jet) {
            return heightBy(pressureOf(jet.pump), jet.valve);
        }

        int greatestHeight() {
            int greatest = 0;
            for (int j = 0; j < jets.size(); j++) {
                greatest = Math.max(greatest, heightOf(jets.get(j)));
            }
            return greatest;
        }

        int sumOfHeights() {
            int sum = 0;
            for (int j = 0; j < jets.size(); j++) {
                sum += heightOf(jets.get(j));
            }
            return sum;
        }

        /** The PLACE in which water falls that the JET throws now to that HEIGHT. */
        int placeOfFall(Jet jet, int height) {
            int bySlant = Math.floorDiv(jet.slant * height, 10);
            int byWind = Math.floorDiv(windWithGust() * airTime(height), 2);
            return jet.place + bySlant + byWind;
        }

        private int windWithGust() {
            return wind > 0 ? wind + gust : wind < 0 ? wind - gust : 0;
        }

        /** Takes over all that changes; the PUMPS, JETS and CALLS are the same already. */
        void becomeLike(Show other) {
            for (int p = 0; p < pumps.size() && p < other.pumps.size(); p++) {
                pumps.get(p).becomeLike(other.pumps.get(p));
            }
            for (int j = 0; j < jets.size() && j < other.jets.size(); j++) {
                jets.get(j).becomeLike(other.jets.get(j));
            }
            air.becomeLike(other.air);
            now = other.now;
            water = other.water;
            spilt = other.spilt;
            lost = other.lost;
            wet = other.wet;
            energy = other.energy;
            faults = other.faults;
            dangers = other.dangers;
            wind = other.wind;
            gust = other.gust;
            isSwum = other.isSwum;
        }
    }
}
