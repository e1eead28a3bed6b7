import java.util.Random;
import java.util.function.Supplier;

/** Runs of up to 500 calls, right and wrong ones, each answered alike by the class and by the plain model. */
public final class RandomRunsTest {
    private static final Check CHECK = new Check("RandomRunsTest");
    private static final int RUNS = 400;
    private static final int CALLS = 500;
    private static final int[] WILD = {Integer.MIN_VALUE, -1000, -1, 1 << 20, Integer.MAX_VALUE};

    private final Random random;
    private final JetWaltz waltz = new JetWaltz();
    private final PlainModel model = new PlainModel();
    private String call = "";

    private RandomRunsTest(long seed) {
        random = new Random(seed);
    }

    public static void main(String[] args) {
        for (int run = 0; run < RUNS; run++) {
            CHECK.due("run " + run, new RandomRunsTest(run).firstWrongCall(), "");
        }
        CHECK.end();
    }

    /** A run ends with its first wrong answer, since all that follows would be wrong, too. */
    private String firstWrongCall() {
        // A third of the runs is told much at first, so that calm and crowded basins both come up.
        int told = random.nextInt(3) == 0 ? 40 : 8;
        int dryness = random.nextInt(3);
        for (int c = 0; c < CALLS; c++) {
            int kind = c < told ? random.nextInt(4) : random.nextInt(100);
            String wrong = one(kind, dryness);
            if (!wrong.isEmpty()) {
                return "call " + c + ": " + wrong;
            }
        }
        return "";
    }

    private String one(int kind, int dryness) {
        if (kind < 8) {
            return told(kind / 2 * 2 == kind ? kind / 2 : random.nextInt(4));
        }
        if (kind < 60) {
            return done(kind, dryness);
        }
        return asked(kind);
    }

    private String told(int kind) {
        switch (kind) {
            case 0: {
                int power = some(10, 60);
                return both("pump(" + power + ")", () -> waltz.pump(power), () -> model.pump(power));
            }
            case 1: {
                int pump = some(0, 2);
                int place = random.nextInt(3) == 0 ? 19 : some(0, 19);
                int nozzle = some(1, 5);
                int slant = some(-3, 3);
                return both("jet(" + pump + ", " + place + ", " + nozzle + ", " + slant + ")",
                        () -> waltz.jet(pump, place, nozzle, slant), () -> model.jet(pump, place, nozzle, slant));
            }
            case 2:
                return both("figure()", waltz::figure, model::figure);
            default: {
                int figure = some(0, 4);
                int tick = random.nextBoolean() ? some(0, 4) : some(0, 99);
                int jets = some(1, 1023);
                int value = random.nextInt(10) == 0 ? some(0, 20) : random.nextBoolean() ? some(0, 6) : some(10, 20);
                return both("step(" + figure + ", " + tick + ", " + jets + ", " + value + ")",
                        () -> waltz.step(figure, tick, jets, value), () -> model.step(figure, tick, jets, value));
            }
        }
    }

    private String done(int kind, int dryness) {
        int jet = some(0, 9);
        int pump = some(0, 2);
        if (kind < 12) {
            int wind = some(-4, 4);
            int gust = some(0, 2);
            return both("wind(" + wind + ", " + gust + ")", () -> waltz.wind(wind, gust), () -> model.wind(wind, gust));
        } else if (kind < 22) {
            int to = random.nextBoolean() ? 4 : some(0, 4);
            return both("valve(" + jet + ", " + to + ")", () -> waltz.valve(jet, to), () -> model.valve(jet, to));
        } else if (kind < 29) {
            int to = random.nextBoolean() ? 10 : some(0, 10);
            return both("setting(" + pump + ", " + to + ")", () -> waltz.setting(pump, to), () -> model.setting(pump, to));
        } else if (kind < 32) {
            return both("reset(" + pump + ")", () -> waltz.reset(pump), () -> model.reset(pump));
        } else if (kind < 35) {
            boolean isOn = random.nextInt(4) > 0;
            return both("lamp(" + jet + ", " + isOn + ")", () -> waltz.lamp(jet, isOn), () -> model.lamp(jet, isOn));
        } else if (kind < 38) {
            boolean isStuck = random.nextInt(3) == 0;
            boolean leaks = random.nextInt(3) == 0;
            return both("fault(" + jet + ", " + isStuck + ", " + leaks + ")",
                    () -> waltz.fault(jet, isStuck, leaks), () -> model.fault(jet, isStuck, leaks));
        } else if (kind < 40) {
            boolean is = random.nextInt(3) == 0;
            return both("swim(" + is + ")", () -> waltz.swim(is), () -> model.swim(is));
        } else if (kind < 42) {
            int much = dryness == 0 ? some(1, 5000) : some(1, 300);
            return both("fill(" + much + ")", () -> waltz.fill(much), () -> model.fill(much));
        } else if (kind < 45) {
            int figure = some(0, 4);
            int shift = some(0, 9);
            return both("call(" + figure + ", " + shift + ")", () -> waltz.call(figure, shift), () -> model.call(figure, shift));
        }
        int ticks = dryness == 2 && random.nextInt(4) == 0 ? some(1, 100) : some(1, 8);
        return both("pass(" + ticks + ")", () -> waltz.pass(ticks), () -> model.pass(ticks));
    }

    private String asked(int kind) {
        int jet = some(0, 9);
        int height = some(1, 60);
        if (kind < 65) {
            int pump = some(0, 2);
            int what = some(0, 6);
            return both("ofPump(" + pump + ", " + what + ")", () -> waltz.ofPump(pump, what), () -> model.ofPump(pump, what));
        } else if (kind < 71) {
            int what = some(0, 11);
            return both("ofJet(" + jet + ", " + what + ")", () -> waltz.ofJet(jet, what), () -> model.ofJet(jet, what));
        } else if (kind < 74) {
            int ticks = some(1, 8);
            return both("falls(" + ticks + ")", () -> waltz.falls(ticks), () -> model.falls(ticks));
        } else if (kind < 76) {
            int number = some(0, 19);
            return both("open(" + number + ")", () -> waltz.open(number), () -> model.open(number));
        } else if (kind < 80) {
            int what = some(0, 15);
            return both("many(" + what + ")", () -> waltz.many(what), () -> model.many(what));
        } else if (kind < 82) {
            return both("meanHeight()", waltz::meanHeight, model::meanHeight);
        } else if (kind < 85) {
            int ticks = some(1, 40);
            return both("heightIn(" + jet + ", " + ticks + ")", () -> waltz.heightIn(jet, ticks), () -> model.heightIn(jet, ticks));
        } else if (kind < 88) {
            return both("settingFor(" + jet + ", " + height + ")", () -> waltz.settingFor(jet, height), () -> model.settingFor(jet, height));
        } else if (kind < 91) {
            return both("leadFor(" + jet + ", " + height + ")", () -> waltz.leadFor(jet, height), () -> model.leadFor(jet, height));
        } else if (kind < 94) {
            int ticks = some(1, 60);
            int what = some(0, 1);
            return both("would(" + ticks + ", " + what + ")", () -> waltz.would(ticks, what), () -> model.would(ticks, what));
        }
        return both("digest()", waltz::digest, model::digest);
    }

    /** Mostly one of low to high, at times just beyond, rarely far beyond. */
    private int some(int low, int high) {
        int luck = random.nextInt(100);
        if (luck < 3) {
            return random.nextBoolean() ? low - 1 : high + 1;
        }
        if (luck < 4) {
            return WILD[random.nextInt(WILD.length)];
        }
        return low + random.nextInt(high - low + 1);
    }

    private String both(String name, Supplier<Object> ofWaltz, Supplier<Object> ofModel) {
        call = name;
        String got = answer(ofWaltz);
        String want = answer(ofModel);
        return got.equals(want) ? "" : call + " answered " + got + ", due is " + want;
    }

    private static String answer(Supplier<Object> supplier) {
        try {
            return String.valueOf(supplier.get());
        } catch (RuntimeException e) {
            return "throws " + Check.nameOf(e);
        }
    }
}
