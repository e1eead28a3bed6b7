/** The sentences of promises 16 to 21. */
final class AskedSentences {
    private static final String NO_JET = "Throws `IndexOutOfBoundsException` if there is no such JET";
    private static final String NO_PUMP = "Throws `IndexOutOfBoundsException` if there is no such PUMP";
    private static final int[] NONE_OF_TWO = {Integer.MIN_VALUE, -1, 2, 3, Integer.MAX_VALUE};
    private static final int[] NONE_OF_THREE = {Integer.MIN_VALUE, -1, 3, 4, Integer.MAX_VALUE};

    private final Sentences s;

    AskedSentences(Sentences s) {
        this.s = s;
    }

    void all() {
        promise16();
        promise16Refuses();
        promise17();
        promise17WithoutHeight();
        promise17Refuses();
        promise18();
        promise18Refuses();
        promise19();
        promise19Refuses();
        promise20Empty();
        promise20Told();
        promise20Water();
        promise20Refuses();
        promise21();
    }

    private void promise16() {
        s.says("16", "- `pump`: a PUMP", "- `what`: 0 its POWER, 1 SETTING, 2 DRIVE, 3 PRESSURE, 4 1 if it is TRIPPED,"
                + " otherwise 0, 5 the set of its JETS, 6 how often it was TRIPPED ever", "Returns that.");
        JetWaltz w = new JetWaltz();
        w.pump(10);
        w.pump(60);
        w.pump(35);
        w.jet(0, 0, 5, 0);
        for (int j = 1; j < 10; j++) {
            w.jet(2, j, 1, 0);
            w.valve(j, 1);
        }
        w.setting(2, 10);
        w.setting(0, 1);
        w.pass(3);
        int[][] due = {
            {10, 1, 1, 100 / 20, 0, 1, 0},
            {60, 0, 0, 0, 0, 0, 0},
            {35, 10, 3, 10 * 3 * 35 / 29, 0, 1022, 0},
        };
        for (int p = 0; p < 3; p++) {
            for (int what = 0; what <= 6; what++) {
                s.due("ofPump(" + p + ", " + what + ")", w.ofPump(p, what), due[p][what]);
            }
        }
        JetWaltz off = Basins.tripped();
        int[] dueOff = {60, 0, 0, 0, 1, 1023, 1};
        for (int what = 0; what <= 6; what++) {
            s.due("TRIPPED: ofPump(0, " + what + ")", off.ofPump(0, what), dueOff[what]);
        }
        off.fill(1);
        off.reset(0);
        s.due("reset: ofPump(0, 4)", off.ofPump(0, 4), 0);
        s.due("reset: ofPump(0, 6)", off.ofPump(0, 6), 1);
    }

    private void promise16Refuses() {
        s.says("16", NO_PUMP);
        for (int pump : NONE_OF_TWO) {
            for (int what : new int[] {-1, 0, 6, 7}) {
                s.refused("ofPump(" + pump + ", " + what + ") of two", Basins::busy, Check.INDEX, w -> w.ofPump(pump, what));
            }
        }
        s.refused("PUMP 0 of none", JetWaltz::new, Check.INDEX, w -> w.ofPump(0, 0));
        s.refused("PUMP 3 of three", Basins::full, Check.INDEX, w -> w.ofPump(3, 0));
        s.due("PUMP 1 of two", Basins.busy().ofPump(1, 0), 25);
        s.due("PUMP 2 of three", Basins.full().ofPump(2, 0), 60);
        s.says("16", "Throws `IllegalArgumentException` if what is not 0 to 6");
        for (int what : new int[] {Integer.MIN_VALUE, -1, 7, 8, Integer.MAX_VALUE}) {
            s.refused("what " + what, Basins::busy, Check.ARGUMENT, w -> w.ofPump(0, what));
        }
    }

    private void promise17() {
        s.says("17", "- `jet`: a JET", "- `what`: 0 its PUMP, 1 PLACE, 2 NOZZLE, 3 SLANT, 4 to what its VALVE is SET,"
                + " 5 where it stands, 6 1 if it is STUCK, otherwise 0, 7 FLOW, 8 HEIGHT, 9 1 if its LAMP is ON,"
                + " otherwise 0, 10 water that it threw ever, 11 the PLACE in which water would fall that it throws now"
                + " (also without any HEIGHT)", "Returns that.");
        JetWaltz w = new JetWaltz();
        w.pump(10);
        w.pump(60);
        w.jet(0, 7, 1, 0);
        w.jet(1, 3, 3, -2);
        w.setting(1, 10);
        w.valve(1, 4);
        w.lamp(1, true);
        w.wind(1, 0);
        w.pass(2);
        w.fault(1, true, false);
        // PRESSURE 1200 / 26 = 46, HEIGHT 46 * 2 / 4 = 23, AIR time 4; thrown 3, then 6.
        int[][] due = {
            {0, 7, 1, 0, 0, 0, 0, 0, 0, 0, 0, 7 + 1},
            {1, 3, 3, -2, 4, 2, 1, 6, 23, 1, 9, 3 - 5 + 2},
        };
        for (int j = 0; j < 2; j++) {
            for (int what = 0; what <= 11; what++) {
                s.due("ofJet(" + j + ", " + what + ")", w.ofJet(j, what), due[j][what]);
            }
        }
        w.fault(1, false, false);
        w.lamp(1, false);
        s.due("STUCK no more: ofJet(1, 6)", w.ofJet(1, 6), 0);
        s.due("off: ofJet(1, 9)", w.ofJet(1, 9), 0);
        w.pass(20);
        s.due("highest: ofJet(1, 8)", w.ofJet(1, 8), 60);
        s.due("widest: ofJet(1, 7)", w.ofJet(1, 7), 12);
        s.due("thrown: ofJet(1, 10)", w.ofJet(1, 10), 9 + 9 + 19 * 12);
    }

    private void promise17WithoutHeight() {
        s.says("17", "11 the PLACE in which water would fall that it throws now (also without any HEIGHT)");
        JetWaltz w = Basins.oneJet(60, 5, 3);
        s.due("without HEIGHT and WIND", w.ofJet(0, 11), 10);
        w.wind(-4, 2);
        s.due("without HEIGHT, in WIND -6: AIR time 2", w.ofJet(0, 11), 4);
        w.setting(0, 10);
        w.pass(10);
        w.wind(3, 0);
        s.due("with PRESSURE, without HEIGHT", w.ofJet(0, 11), 13);
        w.valve(0, 1);
        w.pass(1);
        // PRESSURE 6000 / 25 = 240, HEIGHT 60: 18 by SLANT, 12 by WIND.
        s.due("with HEIGHT 60", w.ofJet(0, 11), 40);
        w.wind(0, 0);
        s.due("in the WIND of now", w.ofJet(0, 11), 28);
    }

    private void promise17Refuses() {
        s.says("17", NO_JET);
        for (int jet : NONE_OF_THREE) {
            for (int what : new int[] {-1, 0, 11, 12}) {
                s.refused("ofJet(" + jet + ", " + what + ") of three", Basins::busy, Check.INDEX, w -> w.ofJet(jet, what));
            }
        }
        s.refused("JET 0 of none", JetWaltz::new, Check.INDEX, w -> w.ofJet(0, 0));
        s.refused("JET 10 of ten", Basins::full, Check.INDEX, w -> w.ofJet(10, 0));
        s.due("JET 2 of three", Basins.busy().ofJet(2, 1), 19);
        s.due("JET 9 of ten", Basins.full().ofJet(9, 1), 18);
        s.says("17", "Throws `IllegalArgumentException` if what is not 0 to 11");
        for (int what : new int[] {Integer.MIN_VALUE, -1, 12, 13, Integer.MAX_VALUE}) {
            s.refused("what " + what, Basins::busy, Check.ARGUMENT, w -> w.ofJet(0, what));
        }
    }

    private void promise18() {
        s.says("18", "- `ticks`: in how many ticks", "Returns how much water falls then of what is in the air now.");
        JetWaltz w = Basins.oneJet(60, 2, 0);
        w.wind(4, 2);
        w.setting(0, 10);
        w.valve(0, 4);
        // PRESSURES 600 / 22, 1200 / 24, 1800 / 26, 2400 / 28, 3000 / 28: HEIGHTS 6, 25, 51, 60, 60, AIR times 2, 4, 7, 8, 8.
        int[] fallsAt = {1 + 2, 2 + 4, 3 + 7, 4 + 8, 5 + 8};
        int[] thrown = {2, 4, 6, 8, 8};
        for (int now = 1; now <= 5; now++) {
            w.pass(1);
            for (int ticks = 1; ticks <= 8; ticks++) {
                int due = 0;
                for (int t = 0; t < now; t++) {
                    due += fallsAt[t] == now + ticks ? thrown[t] : 0;
                }
                s.due("NOW " + now + ": falls(" + ticks + ")", w.falls(ticks), due);
            }
        }
        w.fault(0, true, false);
        w.pass(20);
        for (int ticks = 1; ticks <= 8; ticks++) {
            s.due("as far off as can be: falls(" + ticks + ")", w.falls(ticks), 8);
        }
        JetWaltz busy = Basins.busy();
        for (int t = 0; t < 60; t++) {
            int falls = busy.falls(1);
            s.due("what falls in 1 tick", busy.pass(1), falls);
        }
        JetWaltz none = Basins.jets(10);
        for (int ticks = 1; ticks <= 8; ticks++) {
            s.due("nothing in the air: falls(" + ticks + ")", none.falls(ticks), 0);
        }
    }

    private void promise18Refuses() {
        s.says("18", "Throws `IllegalArgumentException` if ticks is not 1 to 8");
        for (int ticks : new int[] {Integer.MIN_VALUE, -8, -1, 0, 9, 10, Integer.MAX_VALUE}) {
            s.refused("falls(" + ticks + ")", Basins::busy, Check.ARGUMENT, w -> w.falls(ticks));
        }
    }

    private void promise19() {
        s.says("19", "- `call`: a CALL", "Returns how many of its STEPS are not due yet.");
        JetWaltz w = Basins.jets(1);
        w.figure();
        w.call(0, 0);
        int[] ticks = {0, 0, 1, 5, 5, 5, 98, 99};
        for (int tick : ticks) {
            w.step(0, tick, 1, 1);
        }
        w.pass(7);
        w.call(0, 0);
        w.pass(1);
        w.call(0, 0);
        int[] passed = {1, 0};
        for (int t = 0; t <= 101; t++) {
            s.due("a CALL without STEPS", w.open(0), 0);
            for (int c = 1; c <= 2; c++) {
                int due = 0;
                for (int tick : ticks) {
                    due += tick + 1 > passed[c - 1] + t ? 1 : 0;
                }
                s.due("open(" + c + ") behind " + (passed[c - 1] + t) + " ticks", w.open(c), due);
            }
            w.pass(1);
        }
        JetWaltz swum = Basins.jets(1);
        swum.figure();
        swum.step(0, 0, 1, 1);
        swum.step(0, 1, 1, 1);
        swum.call(0, 0);
        swum.swim(true);
        s.due("somebody swims: open(0)", swum.open(0), 2);
        swum.pass(1);
        s.due("due, though it is passed over: open(0)", swum.open(0), 1);
        swum.swim(false);
        s.due("nobody swims any more: open(0)", swum.open(0), 1);
        JetWaltz none = new JetWaltz();
        none.figure();
        none.step(0, 0, 512, 1);
        none.call(0, 0);
        s.due("of a JET that is not there: open(0)", none.open(0), 1);
        none.pass(1);
        s.due("due, though no JET is there: open(0)", none.open(0), 0);
    }

    private void promise19Refuses() {
        s.says("19", "Throws `IndexOutOfBoundsException` if there was no such CALL");
        for (int call : NONE_OF_THREE) {
            s.refused("CALL " + call + " of three", Basins::busy, Check.INDEX, w -> w.open(call));
        }
        s.refused("CALL 0 of none", JetWaltz::new, Check.INDEX, w -> w.open(0));
        s.refused("CALL 20 of twenty", Basins::full, Check.INDEX, w -> w.open(20));
        s.due("CALL 2 of three", Basins.busy().open(2), 1);
        s.due("CALL 19 of twenty", Basins.fullAndDone().open(19), 0);
    }

    private void promise20Empty() {
        s.says("20", "- `what`: 0 NOW, 1 PUMPS, 2 JETS, 3 FIGURES, 4 CALLS ever, 5 WATER, 6 what is in the air,"
                + " 7 LOST ever, 8 SPILT ever, 9 by how much the CROWD was WET ever, 10 ENERGY ever, 11 FAULTS ever,"
                + " 12 DANGERS ever, 13 the greatest HEIGHT now (0 without JETS), 14 the set of LAMPS that are ON,"
                + " 15 1 if somebody swims, otherwise 0", "Returns that.");
        JetWaltz w = new JetWaltz();
        for (int what = 0; what <= 15; what++) {
            s.due("new: many(" + what + ")", w.many(what), what == 5 ? 3000 : 0);
        }
        w.swim(true);
        w.fill(5000);
        w.fill(1001);
        w.pass(100);
        for (int p = 0; p < 3; p++) {
            w.pump(60);
        }
        int[] due = {100, 3, 0, 0, 0, 9000, 0, 0, 1, 0, 0, 0, 0, 0, 0, 1};
        for (int what = 0; what <= 15; what++) {
            s.due("without JETS: many(" + what + ")", w.many(what), due[what]);
        }
    }

    private void promise20Told() {
        s.says("20", "1 PUMPS, 2 JETS, 3 FIGURES, 4 CALLS ever", "13 the greatest HEIGHT now",
                "14 the set of LAMPS that are ON", "15 1 if somebody swims, otherwise 0");
        JetWaltz full = Basins.fullAndDone();
        int[] most = {120, 3, 10, 5, 20};
        for (int what = 0; what <= 4; what++) {
            s.due("full: many(" + what + ")", full.many(what), most[what]);
        }
        JetWaltz w = Basins.jets(10);
        int set = 0;
        for (int j = 9; j >= 0; j--) {
            w.lamp(j, true);
            set |= 1 << j;
            s.due("LAMPS", w.many(14), set);
        }
        w.lamp(9, false);
        s.due("LAMPS without that of JET 9", w.many(14), 511);
        for (int j = 0; j < 10; j++) {
            w.setting(0, 1);
            w.valve(j, 1);
            w.pass(1);
            // One VALVE alone stands at 1: PRESSURE 600 / 21 = 28.
            s.due("the greatest is that of JET " + j, w.many(13), 7);
            w.valve(j, 0);
            w.pass(1);
            s.due("none is greater than 0", w.many(13), 0);
        }
        w.valve(3, 4);
        w.valve(6, 2);
        w.pass(4);
        // PRESSURE 600 / 26 = 23.
        s.due("the greater one", w.many(13), 23);
        w.setting(0, 10);
        w.pass(9);
        s.due("as high as can be", w.many(13), 60);
        s.due("nobody", w.many(15), 0);
        w.swim(true);
        s.due("somebody", w.many(15), 1);
        s.due("the HEIGHT of now", w.many(13), 60);
    }

    private void promise20Water() {
        s.says("20", "5 WATER, 6 what is in the air, 7 LOST ever, 8 SPILT ever, 9 by how much the CROWD was WET ever,"
                + " 10 ENERGY ever, 11 FAULTS ever, 12 DANGERS ever");
        // In WIND 4, at HEIGHTS below 10, what is thrown falls 4 off: into 18, onto 20, and onto 23.
        JetWaltz w = new JetWaltz();
        w.pump(10);
        w.jet(0, 14, 1, 0);
        w.jet(0, 16, 2, 0);
        w.jet(0, 19, 4, 0);
        w.wind(4, 0);
        w.setting(0, 2);
        for (int j = 0; j < 3; j++) {
            w.valve(j, 1);
        }
        w.pass(1);
        s.due("too little PRESSURE in tick 1: in the air", w.many(6), 0);
        w.pass(1);
        s.due("HEIGHT", w.many(13), 1);
        for (int t = 1; t <= 5; t++) {
            int down = Math.max(0, t - 2);
            s.due("WATER", w.many(5), 3000 - 7 * t + down);
            s.due("in the air", w.many(6), 7 * Math.min(t, 2));
            s.due("LOST", w.many(7), 6 * down);
            s.due("SPILT", w.many(8), 0);
            s.due("WET", w.many(9), 6 * down);
            s.due("ENERGY", w.many(10), 1 + 4 * t);
            w.pass(1);
        }
        w.wind(4, 1);
        w.pass(2);
        int lost = w.many(7);
        int wet = w.many(9);
        w.pass(1);
        s.due("LOST with what falls beyond", w.many(7), lost + 6);
        s.due("WET without what falls beyond", w.many(9), wet + 2);
        w.fill(5000);
        w.fill(5000);
        int spilt = w.many(8);
        w.pass(1);
        s.due("SPILT with what falls into a full BASIN", w.many(8), spilt + 1);
        s.due("LOST without it", w.many(7), lost + 12);
    }

    private void promise20Refuses() {
        s.says("20", "Throws `IllegalArgumentException` if what is not 0 to 15");
        for (int what : new int[] {Integer.MIN_VALUE, -2, -1, 16, 17, Integer.MAX_VALUE}) {
            s.refused("many(" + what + ")", Basins::busy, Check.ARGUMENT, w -> w.many(what));
            s.refused("new: many(" + what + ")", JetWaltz::new, Check.ARGUMENT, w -> w.many(what));
        }
    }

    private void promise21() {
        s.says("21", "Returns the mean HEIGHT of all JETS, not rounded; 0 without any.");
        JetWaltz w = new JetWaltz();
        s.due("without any, nor a PUMP", w.meanHeight(), 0.0);
        w.pump(60);
        w.setting(0, 10);
        w.pass(10);
        s.due("without any", w.meanHeight(), 0.0);
        for (int j = 1; j <= 10; j++) {
            w.jet(0, 10, 1, 0);
            if (j == 1) {
                s.due("of one without HEIGHT", w.meanHeight(), 0.0);
                w.valve(0, 1);
                w.pass(1);
            }
            // PRESSURE 6000 / 21 = 285, of which a fourth is more than 60.
            s.due("one HEIGHT of 60 among " + j, w.meanHeight(), 60.0 / j);
        }
        for (int j = 1; j < 10; j++) {
            w.valve(j, 1);
        }
        w.pass(1);
        // PRESSURE 6000 / 30 = 200, HEIGHT 50.
        s.due("ten of 50", w.meanHeight(), 50.0);
        w.setting(0, 0);
        w.pass(9);
        w.valve(0, 0);
        w.setting(0, 1);
        w.pass(1);
        // PRESSURE 600 / 29 = 20, HEIGHT 5.
        s.due("nine of 5", w.meanHeight(), 45.0 / 10);
        JetWaltz three = Basins.jets(3);
        three.setting(0, 1);
        three.valve(2, 1);
        three.pass(1);
        s.due("0, 0 and 7", three.meanHeight(), 7.0 / 3);
    }
}
