import java.util.function.Function;

/** Two objects, asked and told the same: those that are in the same state answer the same. */
final class Twins {
    private final JetWaltz one;
    private final JetWaltz other;
    private String difference = "";

    private Twins(JetWaltz one, JetWaltz other) {
        this.one = one;
        this.other = other;
    }

    /**
     * The first call that the two answer differently, or nothing. What no call tells at once (STEPS,
     * LEAKS, GUST, what a CALL will do) comes out by what is done then; both are changed by it.
     */
    static String firstDifference(JetWaltz one, JetWaltz other) {
        Twins twins = new Twins(one, other);
        twins.ask();
        twins.letPass(1, 1, 6);
        twins.light();
        twins.letPass(1);
        twins.tell();
        twins.letPass(1, 1, 10, 90);
        twins.restart();
        twins.letPass(2, 10);
        return twins.difference;
    }

    private void ask() {
        both("digest()", w -> w.digest());
        both("meanHeight()", w -> w.meanHeight());
        for (int ticks = 1; ticks <= 60; ticks += 9) {
            int span = ticks;
            both("would(" + span + ", 0)", w -> w.would(span, 0));
            both("would(" + span + ", 1)", w -> w.would(span, 1));
        }
    }

    private void letPass(int... spans) {
        for (int span : spans) {
            both("pass(" + span + ")", w -> w.pass(span));
            both("digest()", w -> w.digest());
        }
    }

    private void light() {
        for (int j = 0; j < 10; j++) {
            int jet = j;
            both("lamp(" + jet + ", true)", w -> w.lamp(jet, true));
        }
    }

    private void tell() {
        both("wind(1, 1)", w -> w.wind(1, 1));
        both("pump(33)", w -> w.pump(33));
        both("jet(0, 9, 2, 1)", w -> w.jet(0, 9, 2, 1));
        both("figure()", w -> w.figure());
        for (int f = 0; f < 5; f++) {
            int figure = f;
            both("call(" + figure + ", 1)", w -> w.call(figure, 1));
            both("open()", w -> w.open(w.many(4) - 1));
            both("step(" + figure + ", 3, 1023, 4)", w -> w.step(figure, 3, 1023, 4));
        }
    }

    private void restart() {
        both("swim(false)", w -> w.swim(false));
        both("fill(300)", w -> w.fill(300));
        for (int p = 0; p < 3; p++) {
            int pump = p;
            both("reset(" + pump + ")", w -> w.reset(pump));
            both("setting(" + pump + ", 7)", w -> w.setting(pump, 7));
        }
        for (int j = 0; j < 10; j++) {
            int jet = j;
            both("fault(" + jet + ", false, true)", w -> w.fault(jet, false, true));
            both("valve(" + jet + ", 3)", w -> w.valve(jet, 3));
        }
    }

    private void both(String name, Function<JetWaltz, Object> call) {
        if (difference.isEmpty()) {
            String got = answer(call, one);
            String want = answer(call, other);
            difference = got.equals(want) ? "" : name + " then answered " + got + ", not " + want;
        }
    }

    private static String answer(Function<JetWaltz, Object> call, JetWaltz waltz) {
        try {
            return String.valueOf(call.apply(waltz));
        } catch (RuntimeException e) {
            return "throws " + Check.nameOf(e);
        }
    }
}
