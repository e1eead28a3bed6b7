/** Promises 22 to 26: what would be. */
public final class WouldBeTest {
    private static final Check CHECK = new Check("WouldBeTest");

    public static void main(String[] args) {
        promise22HeightIn();
        promise22HeightInWithSteps();
        promise22HeightInWithFaults();
        promise22HeightInRefuses();
        promise23SettingFor();
        promise23SettingForAsSet();
        promise23SettingForRefuses();
        promise24LeadFor();
        promise24LeadForNow();
        promise24LeadForWithin30();
        promise24LeadForWithSteps();
        promise24LeadForTripped();
        promise24LeadForRefuses();
        promise25Would();
        promise25WouldTrip();
        promise25WouldRefuses();
        promises22To25Above5000();
        promises22To26ChangeNothing();
        promise26Digest();
        CHECK.end();
    }

    private static void promise22HeightIn() {
        JetWaltz w = Basins.oneJet(30, 2, 0);
        w.setting(0, 3);
        w.valve(0, 4);
        // PRESSURES 300 / 22, 600 / 24, 900 / 26, 900 / 28.
        int[] due = {3, 12, 25, 32, 32};
        for (int ticks = 1; ticks <= 5; ticks++) {
            CHECK.due("heightIn(0, " + ticks + ")", w.heightIn(0, ticks), due[ticks - 1]);
        }
        CHECK.due("heightIn(0, 40)", w.heightIn(0, 40), 32);
        w.pass(1);
        CHECK.due("a tick later: heightIn(0, 1)", w.heightIn(0, 1), 12);
    }

    private static void promise22HeightInWithSteps() {
        JetWaltz w = Basins.oneJet(30, 2, 0);
        w.figure();
        w.step(0, 0, 1, 13);
        w.step(0, 0, 1, 4);
        w.step(0, 5, 1, 0);
        w.call(0, 0);
        CHECK.due("STEPS are done in it: heightIn(0, 4)", w.heightIn(0, 4), 32);
        CHECK.due("STEPS are done in it: heightIn(0, 9)", w.heightIn(0, 9), 0);
        w.swim(true);
        CHECK.due("not while somebody swims", w.heightIn(0, 4), 0);
        w = Basins.drained(301);
        CHECK.due("before it is TRIPPED", w.heightIn(9, 1), 60);
        CHECK.due("as it is TRIPPED", w.heightIn(9, 2), 0);
        CHECK.due("and now", w.ofJet(9, 8), 60);
    }

    private static void promise22HeightInWithFaults() {
        JetWaltz w = Basins.oneJet(30, 2, 0);
        w.setting(0, 3);
        w.valve(0, 4);
        w.pass(1);
        w.fault(0, true, false);
        // A STUCK VALVE at 1: PRESSURE 900 / 22 = 40.
        CHECK.due("STUCK: heightIn(0, 9)", w.heightIn(0, 9), 10);
        w.fault(0, false, false);
        CHECK.due("no more: heightIn(0, 9)", w.heightIn(0, 9), 32);
        JetWaltz off = Basins.tripped();
        off.fill(5000);
        off.figure();
        off.step(0, 0, 1023, 20);
        off.call(0, 0);
        CHECK.due("TRIPPED: heightIn(9, 9)", off.heightIn(9, 9), 0);
        off.reset(0);
        CHECK.due("reset: heightIn(9, 9)", off.heightIn(9, 9), 60);
    }

    private static void promise22HeightInRefuses() {
        JetWaltz w = Basins.jets(1);
        CHECK.refused("heightIn(1, 1)", w, Check.INDEX, () -> w.heightIn(1, 1));
        CHECK.refused("heightIn(-1, 0)", w, Check.INDEX, () -> w.heightIn(-1, 0));
        CHECK.refused("heightIn(0, 0)", w, Check.ARGUMENT, () -> w.heightIn(0, 0));
        CHECK.refused("heightIn(0, 41)", w, Check.ARGUMENT, () -> w.heightIn(0, 41));
    }

    private static void promise23SettingFor() {
        JetWaltz w = Basins.oneJet(20, 2, 0);
        w.valve(0, 4);
        // HEIGHT is PRESSURE, SETTING * 200 / 28: 7, 14, 21, 28, 35, 42, 50, 57, 60, 60.
        int[][] due = {{1, 1}, {7, 1}, {8, 2}, {14, 2}, {15, 3}, {21, 3}, {50, 7}, {51, 8}, {57, 8}, {58, 9}, {60, 9}};
        for (int[] row : due) {
            CHECK.due("settingFor(0, " + row[0] + ")", w.settingFor(0, row[0]), row[1]);
        }
        w.valve(0, 1);
        // SETTING * 200 / 22 / 4: 90 / 4 = 22 at most.
        CHECK.due("settingFor(0, 22)", w.settingFor(0, 22), 10);
        CHECK.due("settingFor(0, 23)", w.settingFor(0, 23), -1);
        w.valve(0, 0);
        CHECK.due("SET to 0: settingFor(0, 1)", w.settingFor(0, 1), -1);
    }

    private static void promise23SettingForAsSet() {
        JetWaltz w = Basins.jets(3);
        w.pump(60);
        w.jet(1, 0, 5, 0);
        w.setting(0, 5);
        w.valve(0, 4);
        w.valve(1, 4);
        w.valve(3, 4);
        w.pass(4);
        w.fault(0, true, false);
        w.fault(1, true, false);
        w.valve(0, 2);
        w.valve(1, 1);
        // FLOWS 2 and 1 as SET, none of PUMP 1: SETTING 1 gives PRESSURE 600 / 23 = 26.
        CHECK.due("STUCK ones count as they are SET: 13", w.settingFor(0, 13), 1);
        CHECK.due("STUCK ones count as they are SET: 14", w.settingFor(0, 14), 2);
        CHECK.due("STUCK ones count as they are SET: 6", w.settingFor(1, 6), 1);
        CHECK.due("STUCK ones count as they are SET: 7", w.settingFor(1, 7), 2);
        CHECK.due("SET to 0", w.settingFor(2, 1), -1);
        w.valve(2, 4);
        // FLOWS 2, 1 and 4: 600 / 27 = 22.
        CHECK.due("with another's FLOW: 11", w.settingFor(0, 11), 1);
        CHECK.due("with another's FLOW: 12", w.settingFor(0, 12), 2);
        JetWaltz off = Basins.tripped();
        // FLOW 1: PRESSURE 600 / 21 = 28.
        CHECK.due("TRIPPED: settingFor(9, 7)", off.settingFor(9, 7), 1);
        CHECK.due("TRIPPED: settingFor(9, 8)", off.settingFor(9, 8), 2);
    }

    private static void promise23SettingForRefuses() {
        JetWaltz w = Basins.jets(1);
        CHECK.refused("settingFor(1, 1)", w, Check.INDEX, () -> w.settingFor(1, 1));
        CHECK.refused("settingFor(-1, 0)", w, Check.INDEX, () -> w.settingFor(-1, 0));
        CHECK.refused("settingFor(0, 0)", w, Check.ARGUMENT, () -> w.settingFor(0, 0));
        CHECK.refused("settingFor(0, 61)", w, Check.ARGUMENT, () -> w.settingFor(0, 61));
    }

    private static void promise24LeadFor() {
        JetWaltz w = Basins.oneJet(20, 2, 0);
        w.valve(0, 4);
        // With SETTING 3: 200 / 22 * 1 / 4 = 2, 400 / 24 * 2 / 4 = 8, 600 / 26 * 3 / 4 = 17, 600 / 28 = 21.
        CHECK.due("leadFor(0, 21)", w.leadFor(0, 21), 4);
        // With SETTING 2: 2, 8, 400 / 26 * 3 / 4 = 11, 400 / 28 = 14.
        CHECK.due("leadFor(0, 14)", w.leadFor(0, 14), 4);
        CHECK.due("leadFor(0, 11)", w.leadFor(0, 11), 3);
        CHECK.due("leadFor(0, 8)", w.leadFor(0, 8), 2);
        // With SETTING 1: 2, 4, 5, 7.
        CHECK.due("leadFor(0, 7)", w.leadFor(0, 7), 4);
        CHECK.due("leadFor(0, 1)", w.leadFor(0, 1), 1);
        CHECK.due("leadFor(0, 60)", w.leadFor(0, 60), 9);
        w.setting(0, 10);
        CHECK.due("whatever it is set to before: leadFor(0, 14)", w.leadFor(0, 14), 4);
        w.valve(0, 1);
        CHECK.due("without such a SETTING: leadFor(0, 23)", w.leadFor(0, 23), -1);
    }

    private static void promise24LeadForNow() {
        JetWaltz w = Basins.oneJet(20, 2, 0);
        w.valve(0, 4);
        w.setting(0, 5);
        w.pass(5);
        CHECK.due("HEIGHT", w.ofJet(0, 8), 35);
        CHECK.due("now: leadFor(0, 35)", w.leadFor(0, 35), 0);
        CHECK.due("now, with less SETTING: leadFor(0, 1)", w.leadFor(0, 1), 0);
        CHECK.due("leadFor(0, 36)", w.leadFor(0, 36), 1);
        w.fault(0, true, false);
        w.valve(0, 0);
        CHECK.due("high, but without such a SETTING: leadFor(0, 1)", w.leadFor(0, 1), -1);
    }

    private static void promise24LeadForWithin30() {
        for (int tick = 25; tick <= 28; tick++) {
            JetWaltz w = Basins.oneJet(60, 1, 0);
            w.valve(0, 1);
            w.figure();
            w.step(0, tick, 1, 1);
            w.step(0, 0, 1, 0);
            w.call(0, 0);
            // The VALVE is SET to 0 in tick 1 and to 1 in TICK and 1, when it stands at 1 at once.
            CHECK.due("TICK " + tick + ": leadFor(0, 5)", w.leadFor(0, 5), tick + 1);
        }
        JetWaltz at30 = Basins.oneJet(60, 1, 0);
        at30.valve(0, 1);
        at30.figure();
        at30.step(0, 0, 1, 0);
        at30.step(0, 29, 1, 1);
        at30.call(0, 0);
        CHECK.due("behind 30", at30.leadFor(0, 5), 30);
        JetWaltz at31 = Basins.oneJet(60, 1, 0);
        at31.valve(0, 1);
        at31.figure();
        at31.step(0, 0, 1, 0);
        at31.step(0, 30, 1, 1);
        at31.call(0, 0);
        CHECK.due("behind 31", at31.leadFor(0, 5), -1);
        at31.pass(1);
        CHECK.due("then SET to 0", at31.leadFor(0, 5), -1);
    }

    private static void promise24LeadForWithSteps() {
        JetWaltz w = Basins.oneJet(20, 2, 0);
        w.valve(0, 4);
        w.figure();
        w.step(0, 1, 1, 11);
        w.step(0, 6, 1, 13);
        w.call(0, 0);
        // DRIVES 1, 1, 1, 1, 1, 1, 2, 3: the STEPS set it to 1 in tick 2 and to 3 in tick 7.
        CHECK.due("STEPS set it again: leadFor(0, 21)", w.leadFor(0, 21), 8);
        CHECK.due("as it does without any doing: heightIn(0, 8)", w.heightIn(0, 8), 21);
        JetWaltz low = Basins.oneJet(20, 2, 0);
        low.valve(0, 4);
        low.figure();
        low.step(0, 1, 1, 11);
        low.call(0, 0);
        CHECK.due("STEPS keep it low: leadFor(0, 21)", low.leadFor(0, 21), -1);
        JetWaltz dry = Basins.drained(301);
        dry.valve(8, 1);
        CHECK.due("a SETTING there is: settingFor(8, 1)", dry.settingFor(8, 1), 1);
        CHECK.due("it would be TRIPPED before: leadFor(8, 1)", dry.leadFor(8, 1), -1);
        dry.fill(100);
        CHECK.due("with WATER: leadFor(8, 1)", dry.leadFor(8, 1), 1);
    }

    private static void promise24LeadForTripped() {
        JetWaltz w = Basins.tripped();
        CHECK.due("a SETTING there is", w.settingFor(9, 20), 3);
        CHECK.due("TRIPPED: leadFor(9, 20)", w.leadFor(9, 20), -1);
        w.fill(1000);
        CHECK.due("TRIPPED with WATER: leadFor(9, 20)", w.leadFor(9, 20), -1);
        w.reset(0);
        CHECK.due("reset: leadFor(9, 20)", w.leadFor(9, 20), 3);
    }

    private static void promise24LeadForRefuses() {
        JetWaltz w = Basins.jets(1);
        CHECK.refused("leadFor(1, 1)", w, Check.INDEX, () -> w.leadFor(1, 1));
        CHECK.refused("leadFor(-1, 0)", w, Check.INDEX, () -> w.leadFor(-1, 0));
        CHECK.refused("leadFor(0, 0)", w, Check.ARGUMENT, () -> w.leadFor(0, 0));
        CHECK.refused("leadFor(0, 61)", w, Check.ARGUMENT, () -> w.leadFor(0, 61));
    }

    private static void promise25Would() {
        JetWaltz w = Basins.oneJet(30, 2, 0);
        w.wind(4, 2);
        w.setting(0, 3);
        w.valve(0, 4);
        // As in the DoneTest: the 6 of tick 3 fall onto the CROWD in tick 7.
        CHECK.due("would(6, 0)", w.would(6, 0), 0);
        CHECK.due("would(7, 0)", w.would(7, 0), 6);
        CHECK.due("would(60, 0)", w.would(60, 0), 6);
        CHECK.due("would(1, 1)", w.would(1, 1), 2998);
        CHECK.due("would(2, 1)", w.would(2, 1), 2994);
        CHECK.due("would(3, 1)", w.would(3, 1), 2990);
        w.pass(7);
        CHECK.due("WET before does not count", w.would(60, 0), 0);
        CHECK.due("WET", w.many(9), 6);
        JetWaltz rises = Basins.oneJet(30, 2, 0);
        rises.setting(0, 3);
        rises.valve(0, 4);
        rises.pass(30);
        rises.setting(0, 0);
        int now = rises.many(5);
        CHECK.due("more WATER at the end of each than now", rises.would(60, 1) > now - 8, true);
        rises.pass(3);
        int low = rises.many(5);
        CHECK.due("WATER only rises: would(10, 1)", rises.would(10, 1), rises.would(1, 1));
        CHECK.due("the WATER now is not one of them", rises.would(10, 1) > low, true);
    }

    private static void promise25WouldTrip() {
        JetWaltz w = Basins.drained(340);
        CHECK.due("would(40, 1)", w.would(40, 1), 300);
        CHECK.due("would(41, 1)", w.would(41, 1), 299);
        CHECK.due("TRIPPED by then: would(60, 1)", w.would(60, 1), 299);
        CHECK.due("not TRIPPED now", w.ofPump(0, 4), 0);
        CHECK.due("how often", w.ofPump(0, 6), 0);
    }

    private static void promise25WouldRefuses() {
        JetWaltz w = Basins.jets(1);
        CHECK.refused("would(0, 0)", w, Check.ARGUMENT, () -> w.would(0, 0));
        CHECK.refused("would(-1, 1)", w, Check.ARGUMENT, () -> w.would(-1, 1));
        CHECK.refused("would(61, 0)", w, Check.ARGUMENT, () -> w.would(61, 0));
        CHECK.refused("would(1, -1)", w, Check.ARGUMENT, () -> w.would(1, -1));
        CHECK.refused("would(1, 2)", w, Check.ARGUMENT, () -> w.would(1, 2));
    }

    private static void promises22To25Above5000() {
        JetWaltz w = Basins.oneJet(20, 2, 0);
        for (int t = 0; t < 50; t++) {
            w.pass(100);
        }
        w.figure();
        w.step(0, 2, 1, 14);
        w.step(0, 8, 1, 0);
        w.call(0, 0);
        w.valve(0, 4);
        // From tick 5003 on DRIVES 1, 2, 3, 4; the VALVE stands at 4 by then: 200 * 4 / 28 = 28.
        CHECK.due("heightIn(0, 3)", w.heightIn(0, 3), 200 / 26 * 3 / 4);
        CHECK.due("heightIn(0, 6)", w.heightIn(0, 6), 28);
        CHECK.due("heightIn(0, 40)", w.heightIn(0, 40), 0);
        CHECK.due("leadFor(0, 21)", w.leadFor(0, 21), 4);
        CHECK.due("would(3, 1)", w.would(3, 1), 3000 - 6);
        CHECK.due("would(60, 0)", w.would(60, 0), 0);
        CHECK.due("NOW", w.many(0), 5000);
        CHECK.due("open(0)", w.open(0), 2);
    }

    private static void promises22To26ChangeNothing() {
        JetWaltz asked = rich();
        JetWaltz other = rich();
        for (int ticks = 1; ticks <= 40; ticks++) {
            asked.heightIn(ticks % 4, ticks);
            asked.leadFor(ticks % 4, ticks);
            asked.settingFor(ticks % 4, ticks);
            asked.would(ticks, ticks % 2);
        }
        for (int t = 0; t < 10; t++) {
            CHECK.due("digest() of the one that was asked", asked.digest(), other.digest());
            CHECK.due("pass(3) of the one that was asked", asked.pass(3), other.pass(3));
        }
    }

    /** A basin with some of everything. */
    private static JetWaltz rich() {
        JetWaltz w = new JetWaltz();
        w.pump(60);
        w.pump(25);
        w.jet(0, 3, 2, -1);
        w.jet(1, 18, 3, 2);
        w.jet(0, 19, 5, 3);
        w.jet(1, 0, 1, 0);
        w.figure();
        w.step(0, 0, 15, 18);
        w.step(0, 1, 5, 4);
        w.step(0, 7, 10, 3);
        w.step(0, 12, 15, 5);
        w.step(0, 20, 3, 0);
        w.call(0, 0);
        w.call(0, 3);
        w.wind(-2, 1);
        w.lamp(1, true);
        w.fault(3, false, true);
        w.pass(11);
        w.call(0, 1);
        return w;
    }

    private static void promise26Digest() {
        CHECK.due("a new object's digest()", new JetWaltz().digest(), 2996363152483717963L);
        JetWaltz w = rich();
        w.fill(5000);
        w.fill(3000);
        w.valve(2, 3);
        w.pass(5);
        CHECK.due("digest() is the sum of what is asked", w.digest(), digestOf(w));
        for (int power = 10; power <= 60; power++) {
            JetWaltz one = Basins.oneJet(power, 3, 1);
            one.wind(4, 1);
            one.setting(0, 4);
            one.valve(0, 1 + power % 4);
            for (int ticks = 1; ticks <= 4; ticks++) {
                one.pass(ticks);
                CHECK.due("digest() with POWER " + power, one.digest(), digestOf(one));
            }
        }
        JetWaltz off = Basins.tripped();
        off.figure();
        off.call(0, 0);
        CHECK.due("digest() of a TRIPPED one", off.digest(), digestOf(off));
    }

    private static long digestOf(JetWaltz w) {
        long d = 9115;
        for (int what = 0; what < 16; what++) {
            d = d * 31 + w.many(what);
        }
        for (int p = 0; p < w.many(1); p++) {
            for (int what = 0; what < 7; what++) {
                d = d * 31 + w.ofPump(p, what);
            }
        }
        for (int j = 0; j < w.many(2); j++) {
            for (int what = 0; what < 12; what++) {
                d = d * 31 + w.ofJet(j, what);
            }
            d = d * 31 + w.heightIn(j, 5);
            d = d * 31 + w.settingFor(j, 20);
            d = d * 31 + w.leadFor(j, 20);
        }
        for (int ticks = 1; ticks <= 8; ticks++) {
            d = d * 31 + w.falls(ticks);
        }
        for (int c = 0; c < w.many(4); c++) {
            d = d * 31 + w.open(c);
        }
        d = d * 31 + w.would(12, 0);
        return d * 31 + w.would(12, 1);
    }
}
