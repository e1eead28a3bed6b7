/** Objects of JetWaltz in the states that several tests start from. */
final class Basins {
    private Basins() {
    }

    /** One PUMP of that POWER with one JET in PLACE 10, all else as at first. */
    static JetWaltz oneJet(int power, int nozzle, int slant) {
        JetWaltz w = new JetWaltz();
        w.pump(power);
        w.jet(0, 10, nozzle, slant);
        return w;
    }

    /** One PUMP with so many JETS, the first in PLACE 0, the next in PLACE 1, and so on. */
    static JetWaltz jets(int count) {
        JetWaltz w = new JetWaltz();
        w.pump(60);
        for (int j = 0; j < count; j++) {
            w.jet(0, j, 1, 0);
        }
        return w;
    }

    /**
     * PUMP 0 with 10 JETS, of which JET 9 alone still throws: 1 each tick, and all of it is LOST.
     * PUMP 1 has no JETS and stands still. The WATER is exactly what is asked for (301 to 340).
     */
    static JetWaltz drained(int water) {
        JetWaltz w = new JetWaltz();
        w.pump(60);
        w.pump(30);
        w.wind(4, 2);
        for (int j = 0; j < 10; j++) {
            w.jet(0, 19, j == 9 ? 1 : 5, 3);
            w.valve(j, 4);
        }
        w.setting(0, 10);
        while (w.many(5) >= 800) {
            w.pass(1);
        }
        for (int j = 0; j < 10; j++) {
            w.valve(j, j == 9 ? 1 : 0);
        }
        w.pass(5);
        while (w.many(5) > water) {
            w.pass(Math.min(100, w.many(5) - water));
        }
        return w;
    }

    /** The same a while later: PUMP 0 is TRIPPED, and nothing is in the air. */
    static JetWaltz tripped() {
        JetWaltz w = drained(301);
        w.pass(12);
        return w;
    }
}
