/** The Terms of the document: what a tick does, and in which order; FIGURES, SWIM and TRIPPED PUMPS. */
public final class TickTest {
    private static final Check CHECK = new Check("TickTest");

    public static void main(String[] args) {
        drivesAndValvesFollow();
        waterFallsWhereItWasThrownTo();
        airTimes();
        jetsThrowTogether();
        placesEnd();
        windIsThatOfTheThrow();
        waterFallsBeforeItIsThrown();
        energy();
        pumpsTripBelow300();
        onlyRunningPumpsTrip();
        lampsAreShorted();
        dangerIsOnceATick();
        callsThenSteps();
        stepsBeforeDrives();
        stepValues();
        jetsAsTheStepIsDone();
        trippedKeepsSettingOf0();
        CHECK.end();
    }

    private static void drivesAndValvesFollow() {
        JetWaltz w = Basins.jets(1);
        w.setting(0, 2);
        w.valve(0, 3);
        int[] drives = {1, 2, 2, 2, 1, 0, 0};
        int[] valves = {1, 2, 3, 3, 2, 1, 1};
        for (int t = 0; t < 7; t++) {
            if (t == 4) {
                w.setting(0, 0);
                w.valve(0, 1);
            }
            w.pass(1);
            CHECK.due("DRIVE in tick " + (t + 1), w.ofPump(0, 2), drives[t]);
            CHECK.due("VALVE in tick " + (t + 1), w.ofJet(0, 5), valves[t]);
        }
    }

    private static void waterFallsWhereItWasThrownTo() {
        JetWaltz w = Basins.oneJet(30, 2, 0);
        w.setting(0, 3);
        w.valve(0, 4);
        int[] water = {2998, 2994, 2990, 2982, 2978, 2970, 2968, 2960, 2960, 2960};
        int[] air = {2, 6, 10, 18, 22, 30, 32, 40, 40, 40};
        for (int t = 0; t < 10; t++) {
            w.pass(1);
            CHECK.due("WATER in tick " + (t + 1), w.many(5), water[t]);
            CHECK.due("in the air in tick " + (t + 1), w.many(6), air[t]);
        }
        CHECK.due("LOST", w.many(7), 0);
        CHECK.due("thrown", w.ofJet(0, 10), 2 + 4 + 6 + 7 * 8);
    }

    private static void airTimes() {
        // With SETTING 1, NOZZLE 1 and VALVE 4: HEIGHT is POWER * 10 / 24.
        int[][] rows = {{22, 9, 2}, {24, 10, 3}, {46, 19, 3}, {48, 20, 4}, {43, 17, 3}, {44, 18, 3}, {60, 25, 4}};
        for (int[] row : rows) {
            JetWaltz w = Basins.oneJet(row[0], 1, 0);
            w.setting(0, 1);
            w.valve(0, 4);
            w.pass(20);
            w.valve(0, 3);
            CHECK.due("HEIGHT of POWER " + row[0], w.ofJet(0, 8), row[1]);
            for (int ticks = 1; ticks <= 8; ticks++) {
                CHECK.due("HEIGHT " + row[1] + ": falls(" + ticks + ")", w.falls(ticks), ticks <= row[2] ? 4 : 0);
            }
        }
        // VALVE 4, NOZZLE 1: PRESSURE is HEIGHT, 10 * DRIVE * POWER / 24.
        int[][] high = {{3, 48, 60, 8}, {4, 36, 60, 8}, {3, 47, 58, 7}, {3, 40, 50, 7}, {3, 39, 48, 6}};
        for (int[] row : high) {
            JetWaltz w = Basins.oneJet(row[1], 1, 0);
            w.setting(0, row[0]);
            w.valve(0, 4);
            w.pass(20);
            CHECK.due("HEIGHT of POWER " + row[1], w.ofJet(0, 8), row[2]);
            CHECK.due("HEIGHT " + row[2] + ": falls last", w.falls(row[3]), 4);
            CHECK.due("HEIGHT " + row[2] + ": in the air", w.many(6), 4 * row[3]);
        }
    }

    /** What several JETS throw in one tick, or one JET in several, falls in one tick. */
    private static void jetsThrowTogether() {
        int[] places = {10, 0, 19};
        int[] winds = {0, -1, 4};
        int[] lost = {0, 7, 7};
        int[] wet = {0, 7, 0};
        for (int k = 0; k < 3; k++) {
            JetWaltz w = new JetWaltz();
            w.pump(60);
            w.jet(0, places[k], 3, 0);
            w.jet(0, places[k], 4, 0);
            w.wind(winds[k], winds[k] == 4 ? 2 : 0);
            w.setting(0, 1);
            w.valve(0, 1);
            w.valve(1, 1);
            w.pass(1);
            w.valve(0, 0);
            w.valve(1, 0);
            CHECK.due("thrown together", w.falls(2), 7);
            CHECK.due("WATER before", w.many(5), 2993);
            CHECK.due("came down together", w.pass(2), 7);
            CHECK.due("LOST together", w.many(7), lost[k]);
            CHECK.due("WET together", w.many(9), wet[k]);
            CHECK.due("WATER behind", w.many(5), 3000 - lost[k]);
        }
    }

    /** Water thrown without SLANT in tick 1, at a HEIGHT below 10, falls in tick 3 as far off as WIND is. */
    private static void placesEnd() {
        int[][] rows = {
            {0, -1, 1, 1}, {0, -4, 1, 1}, {0, -5, 0, 1}, {0, -6, 0, 1}, {1, -1, 0, 0}, {4, -4, 0, 0},
            {19, 1, 1, 1}, {19, 4, 1, 1}, {19, 5, 0, 1}, {19, 6, 0, 1}, {18, 1, 0, 0}, {15, 4, 0, 0},
        };
        for (int[] row : rows) {
            JetWaltz w = new JetWaltz();
            w.pump(10);
            w.jet(0, row[0], 3, 0);
            int gust = Math.max(0, Math.abs(row[1]) - 4);
            w.wind(row[1] < 0 ? row[1] + gust : row[1] - gust, gust);
            w.setting(0, 1);
            w.valve(0, 1);
            w.pass(1);
            CHECK.due("HEIGHT", w.ofJet(0, 8), 1);
            CHECK.due("PLACE", w.ofJet(0, 11), row[0] + row[1]);
            w.valve(0, 0);
            CHECK.due("came down", w.pass(2), 3);
            CHECK.due("PLACE " + (row[0] + row[1]) + " is of the CROWD", w.many(9), 3 * row[2]);
            CHECK.due("PLACE " + (row[0] + row[1]) + " is LOST", w.many(7), 3 * row[3]);
            CHECK.due("PLACE " + (row[0] + row[1]) + ": WATER", w.many(5), 3000 - 3 * row[3]);
        }
    }

    private static void windIsThatOfTheThrow() {
        JetWaltz w = Basins.jets(1);
        w.setting(0, 1);
        w.valve(0, 1);
        w.wind(-3, 0);
        w.pass(1);
        w.wind(3, 0);
        w.pass(1);
        CHECK.due("nothing WET yet", w.many(9), 0);
        w.pass(1);
        CHECK.due("the first fell onto the CROWD", w.many(9), 1);
        w.pass(1);
        CHECK.due("the second into the BASIN", w.many(9), 1);
    }

    private static void waterFallsBeforeItIsThrown() {
        JetWaltz w = Basins.jets(1);
        w.setting(0, 1);
        w.valve(0, 1);
        w.pass(2);
        w.fill(5000);
        w.fill(5000);
        int spilt = w.many(8);
        w.pass(1);
        CHECK.due("what falls into a full BASIN is SPILT", w.many(8), spilt + 1);
        CHECK.due("what is thrown then is missing", w.many(5), 8999);
        CHECK.due("it is not LOST", w.many(7), 0);
    }

    private static void energy() {
        JetWaltz w = new JetWaltz();
        w.pump(10);
        w.pump(20);
        w.jet(0, 0, 1, 0);
        w.jet(0, 0, 1, 0);
        w.setting(0, 3);
        w.setting(1, 2);
        int[] due = {2, 10, 23, 36};
        for (int t = 0; t < 4; t++) {
            w.pass(1);
            CHECK.due("ENERGY of DRIVES in tick " + (t + 1), w.many(10), due[t]);
        }
        w.lamp(0, true);
        w.pass(1);
        CHECK.due("ENERGY with a LAMP", w.many(10), 36 + 14);
        w.lamp(1, true);
        w.fault(1, false, true);
        w.pass(1);
        CHECK.due("ENERGY with 2 LAMPS, that go off then", w.many(10), 50 + 15);
        w.pass(1);
        CHECK.due("ENERGY without", w.many(10), 65 + 13);
    }

    private static void pumpsTripBelow300() {
        JetWaltz w = Basins.drained(304);
        int energy = w.many(10);
        for (int water = 303; water >= 300; water--) {
            w.pass(1);
            CHECK.due("WATER", w.many(5), water);
            CHECK.due("not TRIPPED with WATER of " + water, w.ofPump(0, 4), 0);
        }
        w.pass(1);
        CHECK.due("WATER at the end", w.many(5), 299);
        CHECK.due("TRIPPED with WATER of 299", w.ofPump(0, 4), 1);
        CHECK.due("DRIVE", w.ofPump(0, 2), 0);
        CHECK.due("SETTING", w.ofPump(0, 1), 0);
        CHECK.due("how often", w.ofPump(0, 6), 1);
        CHECK.due("ENERGY of that tick, too", w.many(10), energy + 5 * 100);
        w.pass(1);
        CHECK.due("no more WATER goes", w.many(5), 299);
        CHECK.due("no more ENERGY goes", w.many(10), energy + 500);
        CHECK.due("not again", w.ofPump(0, 6), 1);
    }

    private static void onlyRunningPumpsTrip() {
        JetWaltz w = Basins.tripped();
        CHECK.due("PUMP 1 stood still", w.ofPump(1, 4), 0);
        w.setting(1, 4);
        w.pass(1);
        CHECK.due("PUMP 1 runs with less WATER", w.ofPump(1, 4), 1);
        CHECK.due("its SETTING", w.ofPump(1, 1), 0);
        CHECK.due("PUMP 0 is not TRIPPED again", w.ofPump(0, 6), 1);
        CHECK.due("PUMP 1 is", w.ofPump(1, 6), 1);
        w.fill(5000);
        w.pass(5);
        CHECK.due("TRIPPED till it is reset", w.ofPump(1, 4), 1);
    }

    private static void lampsAreShorted() {
        JetWaltz w = Basins.jets(4);
        w.fault(0, false, true);
        w.lamp(1, true);
        w.pass(1);
        CHECK.due("a LEAK with its LAMP off: ON", w.many(14), 2);
        CHECK.due("a LEAK with its LAMP off: FAULTS", w.many(11), 0);
        w.fault(2, false, true);
        w.lamp(0, true);
        w.lamp(2, true);
        w.pass(1);
        CHECK.due("all go off", w.many(14), 0);
        CHECK.due("each is a FAULT", w.many(11), 2);
        CHECK.due("no DANGER", w.many(12), 0);
        w.pass(1);
        CHECK.due("no FAULT more", w.many(11), 2);
    }

    private static void dangerIsOnceATick() {
        JetWaltz w = Basins.jets(3);
        w.fault(0, false, true);
        w.fault(1, false, true);
        w.swim(true);
        w.lamp(2, true);
        w.pass(1);
        CHECK.due("a swimmer alone is no DANGER", w.many(12), 0);
        w.lamp(0, true);
        w.lamp(1, true);
        w.pass(1);
        CHECK.due("DANGERS", w.many(12), 1);
        CHECK.due("FAULTS", w.many(11), 2);
        w.lamp(1, true);
        w.pass(1);
        CHECK.due("DANGERS again", w.many(12), 2);
        w.swim(false);
        w.lamp(1, true);
        w.pass(1);
        CHECK.due("no DANGER without a swimmer", w.many(12), 2);
        CHECK.due("but a FAULT", w.many(11), 4);
    }

    private static void callsThenSteps() {
        JetWaltz w = Basins.jets(1);
        w.figure();
        w.figure();
        w.step(0, 0, 1, 4);
        w.step(0, 0, 1, 3);
        w.step(1, 1, 1, 2);
        w.step(1, 1, 1, 1);
        w.call(1, 0);
        w.pass(1);
        w.call(0, 0);
        w.pass(1);
        CHECK.due("the last STEP of the last CALL stands", w.ofJet(0, 4), 3);
        JetWaltz other = Basins.jets(1);
        other.figure();
        other.figure();
        other.step(0, 1, 1, 4);
        other.step(1, 0, 1, 2);
        other.step(1, 0, 1, 1);
        other.call(0, 0);
        other.pass(1);
        other.call(1, 0);
        other.pass(1);
        CHECK.due("by CALLS, not by FIGURES or TICKS", other.ofJet(0, 4), 1);
    }

    private static void stepsBeforeDrives() {
        JetWaltz w = Basins.jets(1);
        w.figure();
        w.step(0, 0, 1, 12);
        w.step(0, 0, 1, 2);
        w.step(0, 0, 1, 5);
        w.call(0, 0);
        w.fault(0, false, true);
        w.pass(1);
        CHECK.due("DRIVE in the tick of the STEP", w.ofPump(0, 2), 1);
        CHECK.due("VALVE in the tick of the STEP", w.ofJet(0, 5), 1);
        CHECK.due("thrown in the tick of the STEP", w.ofJet(0, 10), 1);
        CHECK.due("ENERGY in the tick of the STEP", w.many(10), 2);
        CHECK.due("FAULT in the tick of the STEP", w.many(11), 1);
    }

    private static void stepValues() {
        JetWaltz w = new JetWaltz();
        w.pump(10);
        w.pump(20);
        w.pump(30);
        w.jet(0, 0, 1, 0);
        w.jet(1, 0, 1, 0);
        w.jet(1, 0, 1, 0);
        w.jet(2, 0, 1, 0);
        w.figure();
        w.step(0, 0, 6, 20);
        w.step(0, 0, 5, 3);
        w.step(0, 0, 10, 5);
        w.step(0, 1, 2, 10);
        w.step(0, 1, 1, 0);
        w.step(0, 1, 9, 6);
        w.call(0, 0);
        w.pass(1);
        CHECK.due("SETTING of PUMP 0", w.ofPump(0, 1), 0);
        CHECK.due("SETTING of PUMP 1", w.ofPump(1, 1), 10);
        CHECK.due("SETTING of PUMP 2", w.ofPump(2, 1), 0);
        CHECK.due("VALVE 0", w.ofJet(0, 4), 3);
        CHECK.due("VALVE 1", w.ofJet(1, 4), 0);
        CHECK.due("VALVE 2", w.ofJet(2, 4), 3);
        CHECK.due("VALVE 3", w.ofJet(3, 4), 0);
        CHECK.due("LAMPS", w.many(14), 10);
        w.pass(1);
        CHECK.due("then SETTING of PUMP 1", w.ofPump(1, 1), 0);
        CHECK.due("then VALVE 0", w.ofJet(0, 4), 0);
        CHECK.due("then VALVE 2", w.ofJet(2, 4), 3);
        CHECK.due("then LAMPS", w.many(14), 2);
    }

    private static void jetsAsTheStepIsDone() {
        JetWaltz w = Basins.jets(2);
        w.figure();
        w.step(0, 0, 1023, 1);
        w.step(0, 1, 6, 2);
        w.step(0, 2, 4, 3);
        w.step(0, 9, 1 << 3, 4);
        w.call(0, 2);
        w.pass(1);
        CHECK.due("JETS 2 to 9 stand for none: VALVE 0", w.ofJet(0, 4), 1);
        CHECK.due("JETS 2 to 9 stand for none: VALVE 1", w.ofJet(1, 4), 1);
        w.pass(1);
        CHECK.due("JET 1 and SHIFT 2 of 2: VALVE 1", w.ofJet(1, 4), 2);
        CHECK.due("JET 2 is not there: VALVE 0", w.ofJet(0, 4), 1);
        w.jet(0, 5, 1, 0);
        w.pass(1);
        CHECK.due("JET 2 is there now, and SHIFT 2 of 3: VALVE 1", w.ofJet(1, 4), 3);
        CHECK.due("VALVE 2", w.ofJet(2, 4), 0);
        w.pass(10);
        CHECK.due("JET 3 is not there: VALVE 2", w.ofJet(2, 4), 0);
        JetWaltz none = new JetWaltz();
        none.pump(10);
        none.figure();
        none.step(0, 0, 1023, 20);
        none.call(0, 9);
        CHECK.due("without JETS", none.pass(2), 0);
        CHECK.due("without JETS: SETTING", none.ofPump(0, 1), 0);
    }

    private static void trippedKeepsSettingOf0() {
        JetWaltz w = Basins.tripped();
        w.fill(5000);
        w.figure();
        w.step(0, 0, 1023, 15);
        w.call(0, 0);
        w.pass(1);
        CHECK.due("SETTING by a STEP", w.ofPump(0, 1), 0);
        CHECK.due("DRIVE by a STEP", w.ofPump(0, 2), 0);
        w.reset(0);
        w.pass(1);
        CHECK.due("nor later", w.ofPump(0, 1), 0);
        w.call(0, 0);
        w.pass(1);
        CHECK.due("once it was reset", w.ofPump(0, 1), 5);
        CHECK.due("its DRIVE", w.ofPump(0, 2), 1);
    }
}
