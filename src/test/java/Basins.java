/** Objects of JetWaltz in the states that several tests start from. */
final class Basins {
    private Basins() {
    }

    /** One PUMP of that POWER with one JET in PLACE 10, all else as at first. */
    static JetWaltz oneJet(int power, int nozzle, int slant) {
        JetWaltz w = new JetWaltz();
        w.pump(power);
        w.jet(0, 10, nozzle, slant);
        return w;
    }

    /** One PUMP with so many JETS, the first in PLACE 0, the next in PLACE 1, and so on. */
    static JetWaltz jets(int count) {
        JetWaltz w = new JetWaltz();
        w.pump(60);
        for (int j = 0; j < count; j++) {
            w.jet(0, j, 1, 0);
        }
        return w;
    }

    /**
     * PUMP 0 with 10 JETS, of which JET 9 alone still throws: 1 each tick, and all of it is LOST.
     * PUMP 1 has no JETS and stands still. The WATER is exactly what is asked for (301 to 340).
     */
    static JetWaltz drained(int water) {
        JetWaltz w = new JetWaltz();
        w.pump(60);
        w.pump(30);
        w.wind(4, 2);
        for (int j = 0; j < 10; j++) {
            w.jet(0, 19, j == 9 ? 1 : 5, 3);
            w.valve(j, 4);
        }
        w.setting(0, 10);
        while (w.many(5) >= 800) {
            w.pass(1);
        }
        for (int j = 0; j < 10; j++) {
            w.valve(j, j == 9 ? 1 : 0);
        }
        w.pass(5);
        while (w.many(5) > water) {
            w.pass(Math.min(100, w.many(5) - water));
        }
        return w;
    }

    /** The same a while later: PUMP 0 is TRIPPED, and nothing is in the air. */
    static JetWaltz tripped() {
        JetWaltz w = drained(301);
        w.pass(12);
        return w;
    }

    /** 2 PUMPS, 3 JETS, 2 FIGURES (5 STEPS and 1), 3 CALLS, some STEPS due later, water in the air, WIND, faults. */
    static JetWaltz busy() {
        JetWaltz w = new JetWaltz();
        w.pump(60);
        w.pump(25);
        w.jet(0, 3, 2, -1);
        w.jet(1, 18, 3, 2);
        w.jet(0, 19, 5, 3);
        w.figure();
        w.figure();
        w.step(0, 0, 7, 18);
        w.step(0, 1, 5, 4);
        w.step(0, 9, 2, 3);
        w.step(0, 12, 7, 5);
        w.step(0, 20, 3, 0);
        w.step(1, 30, 7, 2);
        w.call(0, 0);
        w.call(0, 2);
        w.wind(-2, 1);
        w.lamp(1, true);
        w.fault(2, false, true);
        w.pass(5);
        w.call(1, 1);
        w.pass(3);
        w.fault(1, true, false);
        return w;
    }

    static JetWaltz busyWithSwimmer() {
        JetWaltz w = busy();
        w.swim(true);
        return w;
    }

    /** As many PUMPS, JETS, FIGURES, STEPS and CALLS as there can be. */
    static JetWaltz full() {
        JetWaltz w = new JetWaltz();
        for (int p = 0; p < 3; p++) {
            w.pump(20 + 20 * p);
        }
        for (int j = 0; j < 10; j++) {
            w.jet(j % 3, 2 * j, 1 + j % 5, j % 7 - 3);
        }
        for (int f = 0; f < 5; f++) {
            w.figure();
            for (int s = 0; s < 8; s++) {
                w.step(f, 7 * s + f, 1 + 93 * s + 17 * f, s < 4 ? s + 1 : 11 + s);
            }
        }
        w.wind(3, 1);
        for (int c = 0; c < 20; c++) {
            w.call(c % 5, c % 10);
        }
        w.pass(20);
        return w;
    }

    /** TRIPPED PUMP 0 with as much WATER as is asked for (299 to 5000). */
    static JetWaltz trippedWith(int water) {
        JetWaltz w = tripped();
        if (water > w.many(5)) {
            w.fill(water - w.many(5));
        }
        return w;
    }

    static JetWaltz fullAndDone() {
        JetWaltz w = full();
        w.pass(100);
        return w;
    }

    /** An object of which NOW is that, and in which nothing is told yet. */
    static JetWaltz at(int now) {
        JetWaltz w = new JetWaltz();
        while (w.many(0) < now) {
            w.pass(Math.min(100, now - w.many(0)));
        }
        return w;
    }

    /** One JET in PLACE 10 with NOZZLE 3, its VALVE at 4: its HEIGHT is 10 * SETTING * POWER / 32, 60 at most. */
    static JetWaltz steady(int setting, int power, int slant) {
        JetWaltz w = oneJet(power, 3, slant);
        w.setting(0, setting);
        w.valve(0, 4);
        w.pass(30);
        return w;
    }

    /**
     * Ten JETS about to throw all that they can, all of it beyond: 50, 100 and 150 in the first ticks,
     * then 200 in each, so that the WATER is 300 behind 15 ticks and 100 behind 16.
     */
    static JetWaltz tenWideOpen() {
        JetWaltz w = new JetWaltz();
        w.pump(60);
        w.wind(4, 2);
        for (int j = 0; j < 10; j++) {
            w.jet(0, 19, 5, 3);
            w.valve(j, 4);
        }
        w.setting(0, 10);
        return w;
    }
}
