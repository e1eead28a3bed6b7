import java.util.function.Supplier;

/** The sentences on FIGURES, CALLS, somebody who swims, TRIPPED PUMPS and exceptions. */
final class FigureSentences {
    private final Sentences s;

    FigureSentences(Sentences s) {
        this.s = s;
    }

    void all() {
        figures();
        values();
        settingsOfPumps();
        stepsThatItHasThen();
        due();
        shifts();
        shiftWithFewJets();
        asItIsDone();
        calls();
        swimSets();
        swimPassesOver();
        tripped();
        firstNamed();
        wouldBe();
    }

    private void figures() {
        s.says(Sentences.TERMS, "FIGURES: at most 5, numbered from 0, each a row of at most 8 STEPS: a TICK (0 to 99),"
                + " a set of JETS (the sum of 2^j), and a VALUE: ");
        JetWaltz w = Basins.jets(10);
        for (int f = 0; f < 5; f++) {
            s.due("FIGURES before", w.many(3), f);
            s.due("number", w.figure(), f);
        }
        s.refused("a sixth FIGURE", Basins::full, Check.STATE, x -> x.figure());
        for (int n = 1; n <= 8; n++) {
            s.due("STEPS of FIGURE 4", w.step(4, n == 1 ? 0 : 99, 1 << n, 4), n);
        }
        s.refused("a ninth STEP", Basins::full, Check.STATE, x -> x.step(4, 0, 1, 4));
        w.step(0, 0, 1, 1);
        w.step(0, 0, 512, 2);
        w.step(0, 0, 4 + 8 + 256, 3);
        w.call(0, 0);
        w.pass(1);
        int[] set = {1, 0, 3, 3, 0, 0, 0, 0, 3, 2};
        for (int j = 0; j < 10; j++) {
            s.due("SET to, JET " + j, w.ofJet(j, 4), set[j]);
        }
        w.step(1, 0, 1023, 4);
        w.call(1, 0);
        w.pass(1);
        for (int j = 0; j < 10; j++) {
            s.due("SET to by 1023, JET " + j, w.ofJet(j, 4), 4);
        }
        w.call(2, 0);
        w.pass(2);
        s.due("a FIGURE without STEPS", w.ofJet(0, 4), 4);
    }

    private void values() {
        s.says(Sentences.TERMS, "0 to 4: the VALVES of these are SET to it; 5: their LAMPS go ON; 6: they go off;"
                + " 10 to 20: the SETTINGS of the PUMPS of these JETS are VALUE less 10.");
        for (int value = 0; value <= 20; value++) {
            if (value >= 7 && value <= 9) {
                continue;
            }
            for (int ask = 0; ask < 2; ask++) {
                JetWaltz w = Basins.jets(2);
                w.pump(30);
                w.jet(1, 5, 2, 0);
                boolean lit = ask == 0;
                for (int j = 0; j < 3; j++) {
                    w.valve(j, ask == 0 ? 2 : 3);
                    w.lamp(j, lit);
                }
                w.setting(0, 4);
                w.setting(1, 5);
                w.figure();
                w.step(0, 0, 5, value);
                w.call(0, 0);
                w.pass(1);
                int set = value <= 4 ? value : ask == 0 ? 2 : 3;
                int lamps = value == 5 ? (lit ? 7 : 5) : value == 6 ? (lit ? 2 : 0) : lit ? 7 : 0;
                String what = "VALUE " + value + ": ";
                s.due(what + "VALVE 0", w.ofJet(0, 4), set);
                s.due(what + "VALVE 1, not of the set", w.ofJet(1, 4), ask == 0 ? 2 : 3);
                s.due(what + "VALVE 2", w.ofJet(2, 4), set);
                s.due(what + "LAMPS", w.many(14), lamps);
                s.due(what + "SETTING 0", w.ofPump(0, 1), value >= 10 ? value - 10 : 4);
                s.due(what + "SETTING 1", w.ofPump(1, 1), value >= 10 ? value - 10 : 5);
            }
        }
        JetWaltz stuck = Basins.jets(1);
        stuck.fault(0, true, false);
        stuck.figure();
        stuck.step(0, 0, 1, 4);
        stuck.call(0, 0);
        stuck.pass(1);
        s.due("a STUCK VALVE is SET to", stuck.ofJet(0, 4), 4);
        s.due("a STUCK VALVE stands at", stuck.ofJet(0, 5), 0);
    }

    private void settingsOfPumps() {
        s.says(Sentences.TERMS, "the SETTINGS of the PUMPS of these JETS are VALUE less 10.");
        for (int set = 1; set <= 15; set++) {
            JetWaltz w = new JetWaltz();
            for (int p = 0; p < 3; p++) {
                w.pump(30);
                w.setting(p, 3);
            }
            int[] pumps = {2, 0, 2, 1};
            for (int pump : pumps) {
                w.jet(pump, 10, 1, 0);
            }
            w.figure();
            w.step(0, 0, set, 19);
            w.call(0, 0);
            w.pass(1);
            int[] due = {3, 3, 3};
            for (int j = 0; j < 4; j++) {
                due[pumps[j]] = (set >> j & 1) == 1 ? 9 : due[pumps[j]];
            }
            for (int p = 0; p < 3; p++) {
                s.due("set " + set + ": SETTING of PUMP " + p, w.ofPump(p, 1), due[p]);
            }
        }
    }

    private void stepsThatItHasThen() {
        s.says(Sentences.TERMS, "A FIGURE is CALLED, with the STEPS that it has then, and a SHIFT (0 to 9):");
        JetWaltz w = Basins.jets(3);
        w.figure();
        w.call(0, 0);
        w.step(0, 0, 1, 1);
        s.due("none then", w.open(0), 0);
        w.pass(1);
        s.due("none then, none done", w.ofJet(0, 4), 0);
        w.call(0, 0);
        w.step(0, 0, 2, 2);
        s.due("one then", w.open(1), 1);
        w.pass(1);
        s.due("one then: done", w.ofJet(0, 4), 1);
        s.due("one then: not the other", w.ofJet(1, 4), 0);
        w.call(0, 0);
        s.due("two then", w.open(2), 2);
        w.pass(1);
        s.due("two then: done", w.ofJet(1, 4), 2);
        for (int n = 3; n <= 8; n++) {
            w.step(0, 0, 4, 3);
        }
        w.call(0, 0);
        s.due("eight then", w.open(3), 8);
        w.pass(1);
        s.due("eight then: done", w.ofJet(2, 4), 3);
    }

    private void due() {
        s.says(Sentences.TERMS, "each STEP is due TICK and 1 ticks behind that;");
        for (int tick : new int[] {0, 1, 2, 50, 98, 99}) {
            JetWaltz w = Basins.jets(1);
            w.pass(3);
            w.figure();
            w.step(0, tick, 1, 2);
            w.call(0, 0);
            if (tick > 0) {
                w.pass(tick);
            }
            s.due("TICK " + tick + ", that many ticks behind: SET to", w.ofJet(0, 4), 0);
            s.due("TICK " + tick + ", that many ticks behind: open(0)", w.open(0), 1);
            w.pass(1);
            s.due("TICK " + tick + ", one more: SET to", w.ofJet(0, 4), 2);
            s.due("TICK " + tick + ", one more: open(0)", w.open(0), 0);
            w.valve(0, 0);
            w.pass(100);
            s.due("TICK " + tick + ", once", w.ofJet(0, 4), 0);
        }
    }

    private void shifts() {
        s.says(Sentences.TERMS, "a JET j of the set (if there is one of that number) stands for that with the number"
                + " (j and SHIFT) modulo how many JETS there are,");
        for (int jets = 1; jets <= 10; jets++) {
            for (int j = 0; j <= jets && j < 10; j++) {
                for (int shift = 0; shift <= 9; shift += jets < 9 ? 3 : 1) {
                    JetWaltz w = Basins.jets(jets);
                    w.figure();
                    w.step(0, 0, 1 << j, 5);
                    w.call(0, shift);
                    w.pass(1);
                    int due = j < jets ? 1 << (j + shift) % jets : 0;
                    s.due("JET " + j + " of " + jets + ", SHIFT " + shift + ": ON", w.many(14), due);
                }
            }
        }
    }

    private void shiftWithFewJets() {
        s.says(Sentences.TERMS, "(if there is one of that number)", "modulo how many JETS there are");
        JetWaltz none = new JetWaltz();
        none.pump(30);
        none.figure();
        none.step(0, 0, 1023, 15);
        none.call(0, 0);
        none.call(0, 9);
        s.due("no JET", none.pass(1), 0);
        s.due("no JET: SETTING", none.ofPump(0, 1), 0);
        s.due("no JET: open(0)", none.open(0), 0);
        s.due("no JET: would(60, 1)", none.would(60, 1), 3000);
        JetWaltz bare = new JetWaltz();
        bare.figure();
        bare.step(0, 0, 1023, 4);
        bare.call(0, 9);
        s.due("neither PUMP nor JET", bare.pass(1), 0);
        JetWaltz two = Basins.jets(2);
        two.figure();
        two.step(0, 0, 1023 - 3, 5);
        two.step(0, 1, 1023 - 1, 5);
        two.call(0, 9);
        two.pass(1);
        s.due("JETS 2 to 9 of two", two.many(14), 0);
        two.pass(1);
        s.due("JETS 1 to 9 of two, SHIFT 9", two.many(14), 1);
    }

    private void asItIsDone() {
        s.says(Sentences.TERMS, "as it is done.");
        JetWaltz w = Basins.jets(2);
        w.figure();
        w.step(0, 1, 1, 5);
        w.step(0, 2, 8, 5);
        w.call(0, 2);
        w.pass(1);
        w.jet(0, 5, 1, 0);
        w.pass(1);
        s.due("JET 0 and SHIFT 2 of three now", w.many(14), 4);
        w.jet(0, 6, 1, 0);
        w.pass(1);
        s.due("JET 3, that was not there, and SHIFT 2 of four now", w.many(14), 4 + 2);
    }

    private void calls() {
        s.says(Sentences.TERMS, "CALLS: at most 20 ever, numbered from 0.");
        JetWaltz w = Basins.jets(1);
        w.figure();
        w.step(0, 99, 1, 4);
        for (int c = 0; c < 20; c++) {
            s.due("CALLS before", w.many(4), c);
            s.due("number", w.call(0, c % 10), c);
            s.due("open", w.open(c), 1);
        }
        s.refused("a CALL more", Basins::full, Check.STATE, x -> x.call(0, 0));
        w.pass(100);
        for (int c = 0; c < 20; c++) {
            s.due("open, as all is done", w.open(c), 0);
        }
        s.refused("a CALL more, as all are done", Basins::fullAndDone, Check.STATE, x -> x.call(4, 9));
        JetWaltz atOnce = Basins.jets(10);
        atOnce.figure();
        for (int n = 1; n <= 8; n++) {
            atOnce.step(0, 3, 1023, n % 5);
        }
        for (int c = 0; c < 20; c++) {
            atOnce.call(0, c % 10);
        }
        atOnce.pass(3);
        s.due("all eight STEPS of the last", atOnce.open(19), 8);
        atOnce.pass(1);
        for (int j = 0; j < 10; j++) {
            s.due("160 STEPS in one tick: JET " + j, atOnce.ofJet(j, 4), 3);
        }
        s.due("none of the last", atOnce.open(19), 0);
    }

    private void swimSets() {
        s.says(Sentences.TERMS, "SWIM: by each telling that somebody swims (also again) all VALVES are SET to 0,"
                + " all SETTINGS are 0, all LAMPS go off;");
        JetWaltz w = new JetWaltz();
        for (int p = 0; p < 3; p++) {
            w.pump(30);
            w.setting(p, 5 + p);
        }
        for (int j = 0; j < 10; j++) {
            w.jet(j % 3, j, 1, 0);
            w.valve(j, 4);
            w.lamp(j, true);
        }
        w.pass(7);
        s.due("somebody did", w.swim(true), false);
        for (int j = 0; j < 10; j++) {
            s.due("SET to", w.ofJet(j, 4), 0);
            s.due("stands at", w.ofJet(j, 5), 4);
            s.due("ON", w.ofJet(j, 9), 0);
            w.lamp(j, true);
        }
        for (int p = 0; p < 3; p++) {
            s.due("SETTING", w.ofPump(p, 1), 0);
            s.due("DRIVE", w.ofPump(p, 2), 5 + p);
        }
        s.due("ON, lit while somebody swims", w.many(14), 1023);
        s.due("somebody did, again", w.swim(true), true);
        s.due("ON, told again", w.many(14), 0);
        w.lamp(3, true);
        w.swim(false);
        s.due("nobody does: ON", w.many(14), 8);
        w.swim(true);
        w.fault(5, true, false);
        w.pass(1);
        s.due("a STUCK one stands", w.ofJet(5, 5), 4);
        s.due("another goes down", w.ofJet(6, 5), 3);
        w.swim(true);
        s.due("a STUCK one stays so", w.ofJet(5, 6), 1);
        w.pass(1);
        s.due("a STUCK one stands still", w.ofJet(5, 5), 4);
        JetWaltz stuck = Basins.jets(1);
        stuck.valve(0, 3);
        stuck.fault(0, true, false);
        stuck.swim(true);
        s.due("a STUCK one is SET to", stuck.ofJet(0, 4), 0);
        JetWaltz bare = new JetWaltz();
        s.due("without PUMPS and JETS", bare.swim(true), false);
        s.due("swims", bare.many(15), 1);
    }

    private void swimPassesOver() {
        s.says(Sentences.TERMS, "and no STEP is done by (1) (they are passed over), till nobody swims.");
        for (int value : new int[] {4, 5, 15}) {
            for (int tick = 0; tick <= 3; tick++) {
                JetWaltz w = Basins.jets(1);
                w.figure();
                w.step(0, tick, 1, value);
                w.call(0, 0);
                w.pass(1);
                // Somebody swims in ticks 2 and 3.
                w.swim(true);
                w.pass(2);
                boolean isDue = tick <= 2;
                s.due("TICK " + tick + ": open(0)", w.open(0), isDue ? 0 : 1);
                w.swim(false);
                boolean before = w.ofJet(0, 4) + w.ofJet(0, 9) + w.ofPump(0, 1) > 0;
                w.pass(1);
                boolean behind = w.ofJet(0, 4) + w.ofJet(0, 9) + w.ofPump(0, 1) > 0;
                s.due("TICK " + tick + ", VALUE " + value + ": done while somebody swims", before, false);
                s.due("TICK " + tick + ", VALUE " + value + ": done then", behind, tick == 3);
                w.pass(5);
                boolean late = w.ofJet(0, 4) + w.ofJet(0, 9) + w.ofPump(0, 1) > 0;
                s.due("TICK " + tick + ", VALUE " + value + ": not made up for", late, tick == 3);
            }
        }
    }

    private void tripped() {
        s.says(Sentences.TERMS, "A TRIPPED PUMP, till it is reset, keeps a SETTING of 0, whatever is told or done.");
        JetWaltz w = Basins.trippedWith(5000);
        w.figure();
        w.step(0, 0, 1023, 20);
        w.step(0, 1, 1, 11);
        w.call(0, 0);
        w.pass(1);
        s.due("by a STEP: SETTING", w.ofPump(0, 1), 0);
        w.pass(1);
        s.due("by another STEP: SETTING", w.ofPump(0, 1), 0);
        s.due("by another STEP: DRIVE", w.ofPump(0, 2), 0);
        w.swim(true);
        w.swim(false);
        s.due("by a swimmer: TRIPPED", w.ofPump(0, 4), 1);
        s.due("by a swimmer: SETTING", w.ofPump(0, 1), 0);
        s.refused("by telling it", () -> Basins.trippedWith(5000), Check.STATE, x -> x.setting(0, 10));
        w.leadFor(9, 1);
        s.due("by asking: SETTING", w.ofPump(0, 1), 0);
        w.reset(0);
        s.due("reset: SETTING", w.ofPump(0, 1), 0);
        w.call(0, 0);
        w.pass(1);
        s.due("reset, by a STEP: SETTING", w.ofPump(0, 1), 10);
        s.due("reset, by a STEP: DRIVE", w.ofPump(0, 2), 1);
        // In the tick in which it is TRIPPED its STEP comes before, (1) and (6).
        JetWaltz late = Basins.drained(300);
        late.figure();
        late.step(0, 0, 512, 14);
        late.step(0, 1, 512, 14);
        late.call(0, 0);
        late.pass(1);
        s.due("a STEP in the tick in which it is TRIPPED: SETTING", late.ofPump(0, 1), 0);
        late.pass(1);
        s.due("a STEP a tick later: SETTING", late.ofPump(0, 1), 0);
        s.due("a STEP a tick later: DRIVE", late.ofPump(0, 2), 0);
    }

    /** What each promise throws has tests of its own; here is what comes first where two or three apply. */
    private void firstNamed() {
        s.says(Sentences.TERMS,
                "A method that throws an exception changes nothing. If several exceptions apply, the one that is named first is thrown.");
        s.refused("pump(9), a fourth", Basins::full, Check.ARGUMENT, w -> w.pump(9));
        s.refused("jet(), all wrong, an eleventh", Basins::full, Check.INDEX, w -> w.jet(3, 20, 6, 4));
        s.refused("jet(), no such PUMP, an eleventh", Basins::full, Check.INDEX, w -> w.jet(3, 0, 1, 0));
        s.refused("jet(), no such PUMP, a wrong PLACE", Basins::busy, Check.INDEX, w -> w.jet(2, 20, 1, 0));
        s.refused("jet(), a wrong PLACE, an eleventh", Basins::full, Check.ARGUMENT, w -> w.jet(0, 20, 1, 0));
        s.refused("jet(), a wrong NOZZLE, an eleventh", Basins::full, Check.ARGUMENT, w -> w.jet(0, 0, 6, 0));
        s.refused("jet(), a wrong SLANT, an eleventh", Basins::full, Check.ARGUMENT, w -> w.jet(0, 0, 1, 4));
        s.refused("step(), all wrong", Basins::full, Check.INDEX, w -> w.step(5, 100, 1024, 21));
        s.refused("step(), no such FIGURE, a wrong TICK", Basins::busy, Check.INDEX, w -> w.step(2, 100, 1, 0));
        s.refused("step(), a wrong TICK, a ninth", Basins::full, Check.ARGUMENT, w -> w.step(0, 100, 1, 0));
        s.refused("step(), a wrong set, a ninth", Basins::full, Check.ARGUMENT, w -> w.step(0, 0, 1024, 0));
        s.refused("step(), a wrong VALUE, a ninth", Basins::full, Check.ARGUMENT, w -> w.step(0, 0, 1, 7));
        s.refused("valve(), all wrong", Basins::busyWithSwimmer, Check.INDEX, w -> w.valve(3, 5));
        s.refused("valve(), no such JET, a swimmer", Basins::busyWithSwimmer, Check.INDEX, w -> w.valve(3, 0));
        s.refused("valve(), no such JET, a wrong VALVE", Basins::busy, Check.INDEX, w -> w.valve(3, 5));
        s.refused("valve(), a wrong VALVE, a swimmer", Basins::busyWithSwimmer, Check.ARGUMENT, w -> w.valve(2, 5));
        s.refused("setting(), all wrong", Basins::busyWithSwimmer, Check.INDEX, w -> w.setting(2, 11));
        s.refused("setting(), no such PUMP, a swimmer", Basins::busyWithSwimmer, Check.INDEX, w -> w.setting(2, 0));
        s.refused("setting(), no such PUMP, a wrong SETTING", Basins::busy, Check.INDEX, w -> w.setting(2, 11));
        s.refused("setting(), wrong, a swimmer", Basins::busyWithSwimmer, Check.ARGUMENT, w -> w.setting(1, 11));
        s.refused("setting(), wrong, TRIPPED", Basins::tripped, Check.ARGUMENT, w -> w.setting(0, -1));
        s.refused("reset(), no such PUMP, little WATER", Basins::tripped, Check.INDEX, w -> w.reset(2));
        s.refused("call(), all wrong", Basins::full, Check.INDEX, w -> w.call(5, 10));
        s.refused("call(), no such FIGURE, one more", Basins::full, Check.INDEX, w -> w.call(5, 0));
        s.refused("call(), no such FIGURE, a wrong SHIFT", Basins::busy, Check.INDEX, w -> w.call(2, 10));
        s.refused("call(), a wrong SHIFT, one more", Basins::full, Check.ARGUMENT, w -> w.call(0, 10));
        s.refused("pass(101) at 5000", () -> Basins.at(5000), Check.ARGUMENT, w -> w.pass(101));
        s.refused("pass(0) at 5000", () -> Basins.at(5000), Check.ARGUMENT, w -> w.pass(0));
        s.refused("ofPump(), both wrong", Basins::busy, Check.INDEX, w -> w.ofPump(2, 7));
        s.refused("ofJet(), both wrong", Basins::busy, Check.INDEX, w -> w.ofJet(3, 12));
        s.refused("heightIn(), both wrong", Basins::busy, Check.INDEX, w -> w.heightIn(3, 41));
        s.refused("settingFor(), both wrong", Basins::busy, Check.INDEX, w -> w.settingFor(3, 61));
        s.refused("leadFor(), both wrong", Basins::busy, Check.INDEX, w -> w.leadFor(3, 61));
    }

    private void wouldBe() {
        s.says(Sentences.TERMS, "Ahead of the calls `heightIn`, `settingFor`, `leadFor`, `would`, `digest` the interface"
                + " says: ---- what would be (nothing is changed; NOW may be above 5000 in it).");
        leavesAlone(Basins::busy);
        leavesAlone(Basins::busyWithSwimmer);
        leavesAlone(Basins::full);
        leavesAlone(Basins::tripped);
        leavesAlone(() -> Basins.drained(302));
        leavesAlone(() -> Basins.at(5000));
        for (int now = 4999; now <= 5000; now++) {
            JetWaltz w = Basins.at(now);
            w.pump(20);
            w.jet(0, 0, 2, 0);
            w.figure();
            w.step(0, 39, 1, 20);
            w.step(0, 39, 1, 1);
            w.call(0, 0);
            s.due("heightIn(0, 39) at " + now, w.heightIn(0, 39), 0);
            s.due("heightIn(0, 40) at " + now, w.heightIn(0, 40), 200 / 22 / 4);
            s.due("would(39, 1) at " + now, w.would(39, 1), 3000);
            s.due("would(40, 1) at " + now, w.would(40, 1), 2998);
            w.wind(-4, 0);
            s.due("would(41, 0) at " + now, w.would(41, 0), 0);
            s.due("would(42, 0) at " + now, w.would(42, 0), 2);
            w.valve(0, 4);
            s.due("settingFor(0, 21) at " + now, w.settingFor(0, 21), 3);
            s.due("leadFor(0, 21) at " + now, w.leadFor(0, 21), 4);
            s.due("open(0) at " + now, w.open(0), 2);
            s.due("NOW", w.many(0), now);
        }
    }

    private void leavesAlone(Supplier<JetWaltz> made) {
        JetWaltz asked = made.get();
        int jets = asked.many(2);
        for (int ticks = 1; ticks <= 40; ticks += 13) {
            for (int j = 0; j < jets; j++) {
                asked.heightIn(j, ticks);
                asked.settingFor(j, ticks);
                asked.leadFor(j, ticks);
            }
            asked.would(ticks + 20, 0);
            asked.would(ticks + 20, 1);
            asked.digest();
        }
        s.due("one that was asked, and one that was not", Twins.firstDifference(asked, made.get()), "");
    }
}
