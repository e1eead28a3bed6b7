/** The sentences of promises 7 to 15. */
final class DoneSentences {
    private static final String NO_JET = "Throws `IndexOutOfBoundsException` if there is no such JET";
    private static final String NO_PUMP = "Throws `IndexOutOfBoundsException` if there is no such PUMP";
    private static final String NO_FIGURE = "Throws `IndexOutOfBoundsException` if there is no such FIGURE";
    private static final int[] NONE_OF_TWO = {Integer.MIN_VALUE, -1, 2, 3, Integer.MAX_VALUE};
    private static final int[] NONE_OF_THREE = {Integer.MIN_VALUE, -1, 3, 4, Integer.MAX_VALUE};

    private final Sentences s;

    DoneSentences(Sentences s) {
        this.s = s;
    }

    void all() {
        promise7();
        promise7Refuses();
        promise8();
        promise8Refuses();
        promise9();
        promise9Refuses();
        promise10();
        promise11();
        promise11Leaks();
        promise12();
        promise13();
        promise14();
        promise14Refuses();
        promise15();
        promise15Wherever();
        promise15Refuses();
    }

    private void promise7() {
        s.says("7", "Sets a VALVE.", "- `jet`: its JET", "- `to`: to what it is SET", "Returns to what it was SET.");
        JetWaltz w = Basins.jets(10);
        int before = 0;
        for (int to : new int[] {0, 4, 4, 0, 1, 3, 2}) {
            s.due("valve(9, " + to + ")", w.valve(9, to), before);
            s.due("SET to", w.ofJet(9, 4), to);
            s.due("stands at", w.ofJet(9, 5), 0);
            before = to;
        }
        w.fault(9, true, false);
        s.due("a STUCK one", w.valve(9, 4), 2);
        s.due("a STUCK one is SET to", w.ofJet(9, 4), 4);
        s.due("the first", w.valve(0, 1), 0);
        for (int j = 1; j < 9; j++) {
            s.due("the others", w.ofJet(j, 4), 0);
        }
    }

    private void promise7Refuses() {
        s.says("7", NO_JET);
        for (int jet : NONE_OF_THREE) {
            s.refused("JET " + jet + " of three", Basins::busy, Check.INDEX, w -> w.valve(jet, 1));
            s.refused("JET " + jet + " of three, to 5", Basins::busy, Check.INDEX, w -> w.valve(jet, 5));
        }
        s.refused("JET 0 of none", JetWaltz::new, Check.INDEX, w -> w.valve(0, 1));
        s.refused("JET 10 of ten", Basins::full, Check.INDEX, w -> w.valve(10, 1));
        s.due("JET 2 of three", Basins.busy().valve(2, 1), 4);
        s.says("7", "Throws `IllegalArgumentException` if to is not 0 to 4");
        for (int to : new int[] {Integer.MIN_VALUE, -1, 5, 6, Integer.MAX_VALUE}) {
            s.refused("to " + to, Basins::busy, Check.ARGUMENT, w -> w.valve(0, to));
            s.refused("to " + to + ", a swimmer", Basins::busyWithSwimmer, Check.ARGUMENT, w -> w.valve(0, to));
        }
        for (int to = 0; to <= 4; to++) {
            s.due("to " + to, Basins.busy().valve(0, to), 4);
        }
        s.says("7", "Throws `IllegalStateException` if somebody swims");
        for (int t = 0; t <= 4; t++) {
            int to = t;
            s.refused("to " + to + ", a swimmer", Basins::busyWithSwimmer, Check.STATE, w -> w.valve(0, to));
        }
        JetWaltz out = Basins.busyWithSwimmer();
        out.swim(false);
        s.due("nobody any more", out.valve(0, 4), 0);
    }

    private void promise8() {
        s.says("8", "Tells a SETTING.", "- `pump`: its PUMP", "- `to`: the SETTING", "Returns that before.");
        JetWaltz w = new JetWaltz();
        w.pump(10);
        w.pump(20);
        w.pump(30);
        int before = 0;
        for (int to : new int[] {0, 10, 10, 0, 1, 9, 5}) {
            s.due("setting(2, " + to + ")", w.setting(2, to), before);
            s.due("SETTING", w.ofPump(2, 1), to);
            s.due("DRIVE", w.ofPump(2, 2), 0);
            before = to;
        }
        s.due("the first", w.setting(0, 3), 0);
        s.due("another", w.ofPump(1, 1), 0);
    }

    private void promise8Refuses() {
        s.says("8", NO_PUMP);
        for (int pump : NONE_OF_TWO) {
            s.refused("PUMP " + pump + " of two", Basins::busy, Check.INDEX, w -> w.setting(pump, 1));
            s.refused("PUMP " + pump + " of two, to 11", Basins::busy, Check.INDEX, w -> w.setting(pump, 11));
        }
        s.refused("PUMP 0 of none", JetWaltz::new, Check.INDEX, w -> w.setting(0, 1));
        s.refused("PUMP 3 of three", Basins::full, Check.INDEX, w -> w.setting(3, 1));
        s.due("PUMP 1 of two", Basins.busy().setting(1, 1), 8);
        s.says("8", "Throws `IllegalArgumentException` if to is not 0 to 10");
        for (int to : new int[] {Integer.MIN_VALUE, -1, 11, 12, Integer.MAX_VALUE}) {
            s.refused("to " + to, Basins::busy, Check.ARGUMENT, w -> w.setting(0, to));
            s.refused("to " + to + ", a swimmer", Basins::busyWithSwimmer, Check.ARGUMENT, w -> w.setting(0, to));
            s.refused("to " + to + ", TRIPPED", Basins::tripped, Check.ARGUMENT, w -> w.setting(0, to));
        }
        for (int to = 0; to <= 10; to++) {
            s.due("to " + to, Basins.busy().setting(0, to), 8);
        }
        s.says("8", "Throws `IllegalStateException` if somebody swims, or it is TRIPPED");
        for (int to : new int[] {0, 1, 10}) {
            s.refused("to " + to + ", a swimmer", Basins::busyWithSwimmer, Check.STATE, w -> w.setting(0, to));
            s.refused("to " + to + ", TRIPPED", Basins::tripped, Check.STATE, w -> w.setting(0, to));
            s.refused("to " + to + ", TRIPPED, with WATER", () -> Basins.trippedWith(5000), Check.STATE,
                    w -> w.setting(0, to));
        }
        s.due("another is TRIPPED", Basins.tripped().setting(1, 10), 0);
        JetWaltz w = Basins.trippedWith(300);
        w.reset(0);
        s.due("TRIPPED no more", w.setting(0, 10), 0);
        JetWaltz out = Basins.busyWithSwimmer();
        out.swim(false);
        s.due("nobody swims any more", out.setting(0, 10), 0);
    }

    private void promise9() {
        s.says("9", "Resets a PUMP that is TRIPPED.", "- `pump`: the PUMP", "Returns how often it was TRIPPED ever.");
        JetWaltz w = Basins.trippedWith(300);
        for (int often = 1; often <= 5; often++) {
            s.due("reset(0)", w.reset(0), often);
            s.due("TRIPPED", w.ofPump(0, 4), 0);
            s.due("SETTING", w.ofPump(0, 1), 0);
            s.due("DRIVE", w.ofPump(0, 2), 0);
            s.due("how often", w.ofPump(0, 6), often);
            s.due("the other", w.ofPump(1, 6), 0);
            w.setting(0, 5);
            w.pass(1);
            s.due("WATER", w.many(5), 299);
            s.due("TRIPPED once more", w.ofPump(0, 4), 1);
            w.fill(1);
        }
        JetWaltz swum = Basins.trippedWith(300);
        swum.swim(true);
        s.due("reset(0) while somebody swims", swum.reset(0), 1);
    }

    private void promise9Refuses() {
        s.says("9", NO_PUMP);
        for (int pump : NONE_OF_TWO) {
            s.refused("PUMP " + pump + " of two", () -> Basins.trippedWith(300), Check.INDEX, w -> w.reset(pump));
        }
        s.refused("PUMP 0 of none", JetWaltz::new, Check.INDEX, w -> w.reset(0));
        s.refused("PUMP 3 of three", Basins::full, Check.INDEX, w -> w.reset(3));
        s.says("9", "Throws `IllegalStateException` if it is not TRIPPED, or there is less WATER than 300");
        s.refused("WATER of 299, TRIPPED", Basins::tripped, Check.STATE, w -> w.reset(0));
        s.refused("WATER of 299, not TRIPPED", Basins::tripped, Check.STATE, w -> w.reset(1));
        s.refused("WATER of 300, not TRIPPED", () -> Basins.trippedWith(300), Check.STATE, w -> w.reset(1));
        s.refused("WATER of 5000, not TRIPPED", () -> Basins.trippedWith(5000), Check.STATE, w -> w.reset(1));
        s.refused("never TRIPPED", Basins::busy, Check.STATE, w -> w.reset(0));
        s.refused("reset before", DoneSentences::resetOne, Check.STATE, w -> w.reset(0));
        s.due("WATER of 299", Basins.tripped().many(5), 299);
        s.due("WATER of 300, TRIPPED", Basins.trippedWith(300).reset(0), 1);
        s.due("WATER of 301, TRIPPED", Basins.trippedWith(301).reset(0), 1);
    }

    private static JetWaltz resetOne() {
        JetWaltz w = Basins.trippedWith(400);
        w.reset(0);
        return w;
    }

    private void promise10() {
        s.says("10", "Switches a LAMP (also while somebody swims).", "- `jet`: its JET",
                "- `isOn`: whether it is ON from now on", "Returns whether it was.");
        JetWaltz w = Basins.jets(10);
        for (int swims = 0; swims < 2; swims++) {
            w.swim(swims == 1);
            boolean before = false;
            for (boolean isOn : new boolean[] {false, true, true, false, false, true}) {
                s.due("lamp(9, " + isOn + ")", w.lamp(9, isOn), before);
                s.due("ON", w.many(14), isOn ? 512 : 0);
                before = isOn;
            }
            w.pass(1);
            s.due("ON a tick later", w.many(14), 512);
            s.due("the first, too", w.lamp(0, true), false);
            s.due("both ON", w.many(14), 513);
        }
        s.says("10", NO_JET);
        for (int jet : NONE_OF_THREE) {
            s.refused("JET " + jet + " of three", Basins::busy, Check.INDEX, x -> x.lamp(jet, true));
            s.refused("JET " + jet + " of three, off", Basins::busyWithSwimmer, Check.INDEX, x -> x.lamp(jet, false));
        }
        s.refused("JET 0 of none", JetWaltz::new, Check.INDEX, x -> x.lamp(0, true));
        s.refused("JET 10 of ten", Basins::full, Check.INDEX, x -> x.lamp(10, true));
        s.due("JET 2 of three", Basins.busy().lamp(2, true), false);
    }

    private void promise11() {
        s.says("11", "Tells faults.", "- `jet`: a JET", "- `isStuck`: whether its VALVE is STUCK from now on",
                "Returns whether the VALVE was STUCK.");
        JetWaltz w = Basins.jets(10);
        w.valve(9, 4);
        boolean before = false;
        int stands = 0;
        for (boolean isStuck : new boolean[] {false, true, true, false, false, true}) {
            s.due("fault(9, " + isStuck + ", false)", w.fault(9, isStuck, false), before);
            s.due("STUCK", w.ofJet(9, 6), isStuck ? 1 : 0);
            s.due("the others", w.ofJet(8, 6), 0);
            w.pass(1);
            stands += isStuck ? 0 : 1;
            s.due("stands at", w.ofJet(9, 5), stands);
            before = isStuck;
        }
        s.says("11", NO_JET);
        for (int jet : NONE_OF_THREE) {
            s.refused("JET " + jet + " of three", Basins::busy, Check.INDEX, x -> x.fault(jet, true, true));
            s.refused("JET " + jet + " of three, no fault", Basins::busy, Check.INDEX, x -> x.fault(jet, false, false));
        }
        s.refused("JET 0 of none", JetWaltz::new, Check.INDEX, x -> x.fault(0, true, true));
        s.refused("JET 10 of ten", Basins::full, Check.INDEX, x -> x.fault(10, true, true));
        s.due("JET 2 of three", Basins.busy().fault(2, true, true), false);
        s.due("JET 1 of three, STUCK", Basins.busy().fault(1, false, false), true);
    }

    private void promise11Leaks() {
        s.says("11", "- `leaks`: whether its LAMP LEAKS");
        JetWaltz w = Basins.jets(10);
        int faults = 0;
        for (int k = 0; k < 8; k++) {
            boolean leaks = (k >> 1 & 1) == 1;
            boolean isStuck = (k & 1) == 1;
            w.fault(9, isStuck, leaks);
            s.due("STUCK", w.ofJet(9, 6), isStuck ? 1 : 0);
            w.lamp(9, true);
            w.lamp(0, true);
            w.pass(1);
            faults += leaks ? 1 : 0;
            s.due("LEAKS " + leaks + ": FAULTS", w.many(11), faults);
            s.due("LEAKS " + leaks + ": ON", w.many(14), leaks ? 0 : 513);
        }
    }

    private void promise12() {
        s.says("12", "Somebody swims, or nobody does any more.", "- `is`: whether somebody swims from now on",
                "Returns whether somebody did.");
        JetWaltz w = Basins.jets(1);
        boolean before = false;
        for (boolean is : new boolean[] {false, true, true, false, false, true}) {
            w.lamp(0, true);
            s.due("swim(" + is + ")", w.swim(is), before);
            s.due("swims", w.many(15), is ? 1 : 0);
            s.due("LAMPS go off if somebody does", w.many(14), is ? 0 : 1);
            w.pass(1);
            s.due("swims a tick later", w.many(15), is ? 1 : 0);
            before = is;
        }
        JetWaltz during = Basins.busyWithSwimmer();
        s.due("meanwhile: pump()", during.pump(30), 2);
        s.due("meanwhile: jet()", during.jet(2, 0, 1, 0), 3);
        s.due("meanwhile: figure()", during.figure(), 2);
        s.due("meanwhile: step()", during.step(2, 0, 1, 0), 1);
        s.due("meanwhile: wind()", during.wind(1, 0), -2);
        s.due("meanwhile: lamp()", during.lamp(3, true), false);
        s.due("meanwhile: fault()", during.fault(3, true, true), false);
        s.due("meanwhile: fill()", during.fill(5000) > 5000, true);
        s.due("meanwhile: call()", during.call(2, 0), 3);
        during.pass(1);
        s.due("meanwhile: FAULTS", during.many(11), 1);
        JetWaltz told = Basins.jets(1);
        told.valve(0, 3);
        told.setting(0, 4);
        told.swim(false);
        s.due("nobody, again: SET to", told.ofJet(0, 4), 3);
        s.due("nobody, again: SETTING", told.ofPump(0, 1), 4);
    }

    private void promise13() {
        s.says("13", "Fills the BASIN.", "- `much`: how much", "Returns the WATER then.");
        JetWaltz w = new JetWaltz();
        s.due("fill(1)", w.fill(1), 3001);
        s.due("fill(5000)", w.fill(5000), 8001);
        s.due("fill(998)", w.fill(998), 8999);
        s.due("fill(1) to the brim", w.fill(1), 9000);
        s.due("nothing SPILT", w.many(8), 0);
        s.due("fill(1) of a full BASIN", w.fill(1), 9000);
        s.due("WATER", w.many(5), 9000);
        s.due("SPILT", w.many(8), 1);
        JetWaltz dry = Basins.tenWideOpen();
        dry.pass(16);
        s.due("fill(1) of one with 100", dry.fill(1), 101);
        s.says("13", "Throws `IllegalArgumentException` if much is not 1 to 5000");
        for (int much : new int[] {Integer.MIN_VALUE, -5000, -1, 0, 5001, 9000, Integer.MAX_VALUE}) {
            s.refused("fill(" + much + ")", Basins::busy, Check.ARGUMENT, x -> x.fill(much));
        }
    }

    private void promise14() {
        s.says("14", "CALLS a FIGURE.", "- `figure`: the FIGURE", "- `shift`: the SHIFT", "Returns the number of this CALL.");
        JetWaltz w = Basins.jets(10);
        for (int f = 0; f < 5; f++) {
            w.figure();
            w.step(f, 0, 1, f);
        }
        for (int c = 0; c < 20; c++) {
            int figure = c % 5;
            int shift = c % 10;
            s.due("number", w.call(figure, shift), c);
            s.due("CALLS", w.many(4), c + 1);
            w.pass(1);
            s.due("JET " + shift + " by FIGURE " + figure, w.ofJet(shift, 4), figure);
        }
        JetWaltz swum = Basins.busyWithSwimmer();
        s.due("while somebody swims", swum.call(0, 0), 3);
    }

    private void promise14Refuses() {
        s.says("14", NO_FIGURE);
        for (int figure : NONE_OF_TWO) {
            s.refused("FIGURE " + figure + " of two", Basins::busy, Check.INDEX, w -> w.call(figure, 0));
            s.refused("FIGURE " + figure + " of two, SHIFT 10", Basins::busy, Check.INDEX, w -> w.call(figure, 10));
        }
        s.refused("FIGURE 0 of none", JetWaltz::new, Check.INDEX, w -> w.call(0, 0));
        s.refused("FIGURE 5 of five", Basins::full, Check.INDEX, w -> w.call(5, 0));
        s.due("FIGURE 1 of two", Basins.busy().call(1, 0), 3);
        s.says("14", "Throws `IllegalArgumentException` if shift is not 0 to 9");
        for (int shift : new int[] {Integer.MIN_VALUE, -1, 10, 11, Integer.MAX_VALUE}) {
            s.refused("SHIFT " + shift, Basins::busy, Check.ARGUMENT, w -> w.call(0, shift));
            s.refused("SHIFT " + shift + ", one more than 20", Basins::full, Check.ARGUMENT, w -> w.call(0, shift));
        }
        for (int shift = 0; shift <= 9; shift++) {
            s.due("SHIFT " + shift, Basins.busy().call(0, shift), 3);
        }
        s.says("14", "Throws `IllegalStateException` if there were 20");
        JetWaltz w = Basins.busy();
        for (int c = 3; c < 20; c++) {
            s.due("CALL " + c, w.call(c % 2, 9), c);
        }
        s.refused("one more than 20", Basins::full, Check.STATE, x -> x.call(0, 0));
        s.refused("one more than 20", Basins::full, Check.STATE, x -> x.call(4, 9));
        s.refused("one more than 20, all done", Basins::fullAndDone, Check.STATE, x -> x.call(0, 0));
    }

    private void promise15() {
        s.says("15", "Lets ticks go by.", "- `ticks`: how many", "Returns how much water came down in them");
        JetWaltz still = new JetWaltz();
        s.due("pass(1)", still.pass(1), 0);
        s.due("NOW", still.many(0), 1);
        s.due("pass(100)", still.pass(100), 0);
        s.due("NOW", still.many(0), 101);
        // 12 are thrown in each tick and 2 ticks in the air.
        JetWaltz w = Basins.steady(1, 10, 0);
        for (int ticks : new int[] {1, 2, 3, 99, 100}) {
            s.due("pass(" + ticks + ")", w.pass(ticks), 12 * ticks);
        }
        w.valve(0, 0);
        w.setting(0, 0);
        s.due("the first of the last", w.pass(1), 12);
        s.due("the last", w.pass(1), 12);
        s.due("none any more", w.pass(100), 0);
    }

    private void promise15Wherever() {
        s.says("15", "Returns how much water came down in them (wherever).");
        // In WIND 6 and AIR time 2 the 12 fall 6 off.
        int[][] rows = {{13, 0, 0}, {14, 12, 12}, {17, 12, 12}, {18, 12, 0}};
        for (int[] row : rows) {
            JetWaltz w = new JetWaltz();
            w.pump(10);
            w.jet(0, row[0], 3, 0);
            w.wind(4, 2);
            w.setting(0, 1);
            w.valve(0, 4);
            w.pass(30);
            int lost = w.many(7);
            int wet = w.many(9);
            s.due("from PLACE " + row[0] + ": came down", w.pass(1), 12);
            s.due("from PLACE " + row[0] + ": LOST", w.many(7), lost + row[1]);
            s.due("from PLACE " + row[0] + ": WET", w.many(9), wet + row[2]);
        }
        JetWaltz full = Basins.steady(1, 10, 0);
        full.fill(5000);
        full.fill(5000);
        int spilt = full.many(8);
        s.due("into a full BASIN", full.pass(1), 12);
        s.due("SPILT", full.many(8), spilt + 12);
    }

    private void promise15Refuses() {
        s.says("15", "Throws `IllegalArgumentException` if ticks is not 1 to 100");
        for (int ticks : new int[] {Integer.MIN_VALUE, -100, -1, 0, 101, 102, Integer.MAX_VALUE}) {
            s.refused("pass(" + ticks + ")", Basins::busy, Check.ARGUMENT, w -> w.pass(ticks));
            s.refused("pass(" + ticks + ") at 5000", () -> Basins.at(5000), Check.ARGUMENT, w -> w.pass(ticks));
        }
        s.says("15", "Throws `IllegalStateException` if NOW would be above 5000");
        for (int ticks : new int[] {1, 2, 50, 99, 100}) {
            JetWaltz w = Basins.at(5000 - ticks);
            s.due("pass(" + ticks + ") to 5000", w.pass(ticks), 0);
            s.due("NOW", w.many(0), 5000);
            s.refused("pass(" + ticks + ") to 5001", () -> Basins.at(5001 - ticks), Check.STATE, x -> x.pass(ticks));
            s.refused("pass(" + ticks + ") at 5000", () -> Basins.at(5000), Check.STATE, x -> x.pass(ticks));
        }
    }
}
