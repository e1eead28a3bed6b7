import java.math.BigInteger;
import java.util.ArrayList;
import java.util.List;

/** The sentences of promises 22 to 26. */
final class WouldBeSentences {
    private static final String NO_JET = "Throws `IndexOutOfBoundsException` if there is no such JET";
    private static final int[] NONE_OF_THREE = {Integer.MIN_VALUE, -1, 3, 4, Integer.MAX_VALUE};

    private final Sentences s;

    WouldBeSentences(Sentences s) {
        this.s = s;
    }

    void all() {
        promise22();
        promise22AsAllGoesOn();
        promise22Refuses();
        promise23();
        promise23AsSet();
        promise23Refuses();
        promise24();
        promise24Within30();
        promise24Steps();
        promise24Tripped();
        promise24WithoutSetting();
        promise24Refuses();
        promise25Wet();
        promise25Water();
        promise25Refuses();
        promise26();
    }

    private void promise22() {
        s.says("22", "- `jet`: a JET", "- `ticks`: how many ticks", "Returns its HEIGHT behind them,");
        JetWaltz w = Basins.oneJet(30, 2, 0);
        w.setting(0, 3);
        w.valve(0, 4);
        // PRESSURES 300 / 22, 600 / 24, 900 / 26, 900 / 28.
        int[] due = {3, 12, 25, 32};
        for (int ticks = 1; ticks <= 40; ticks++) {
            s.due("heightIn(0, " + ticks + ")", w.heightIn(0, ticks), due[Math.min(ticks, 4) - 1]);
        }
        s.due("HEIGHT now", w.ofJet(0, 8), 0);
        for (int tick = 38; tick <= 40; tick++) {
            JetWaltz late = Basins.oneJet(30, 2, 0);
            late.setting(0, 3);
            late.figure();
            late.step(0, tick, 1, 4);
            late.call(0, 0);
            // PRESSURE 900 / 22 = 40 from TICK and 1 on.
            s.due("TICK " + tick + ": heightIn(0, 39)", late.heightIn(0, 39), tick == 38 ? 10 : 0);
            int due40 = tick == 38 ? 900 / 24 * 2 / 4 : tick == 39 ? 10 : 0;
            s.due("TICK " + tick + ": heightIn(0, 40)", late.heightIn(0, 40), due40);
        }
    }

    private void promise22AsAllGoesOn() {
        s.says("22", "if all went on so.");
        for (JetWaltz w : new JetWaltz[] {Basins.busy(), Basins.full(), Basins.drained(310)}) {
            int jets = w.many(2);
            int[] due = new int[jets];
            for (int j = 0; j < jets; j++) {
                due[j] = w.heightIn(j, 12);
            }
            int[] due40 = new int[jets];
            for (int j = 0; j < jets; j++) {
                due40[j] = w.heightIn(j, 40);
            }
            w.pass(12);
            for (int j = 0; j < jets; j++) {
                s.due("as it came, behind 12: JET " + j, w.ofJet(j, 8), due[j]);
            }
            w.pass(28);
            for (int j = 0; j < jets; j++) {
                s.due("as it came, behind 40: JET " + j, w.ofJet(j, 8), due40[j]);
            }
        }
        JetWaltz dry = Basins.drained(301);
        s.due("with WATER of 300", dry.heightIn(9, 1), 60);
        s.due("with WATER of 299", dry.heightIn(9, 2), 0);
        JetWaltz swum = Basins.oneJet(30, 2, 0);
        swum.figure();
        swum.step(0, 0, 1, 13);
        swum.step(0, 0, 1, 4);
        swum.call(0, 0);
        s.due("by STEPS", swum.heightIn(0, 4), 32);
        swum.swim(true);
        s.due("no STEP is done while somebody swims", swum.heightIn(0, 4), 0);
        s.due("nor any water thrown", swum.would(60, 1), 3000);
        swum.swim(false);
        s.due("nobody swims any more", swum.heightIn(0, 4), 32);
    }

    private void promise22Refuses() {
        s.says("22", NO_JET);
        for (int jet : NONE_OF_THREE) {
            for (int ticks : new int[] {0, 1, 40, 41}) {
                s.refused("heightIn(" + jet + ", " + ticks + ") of three", Basins::busy, Check.INDEX,
                        w -> w.heightIn(jet, ticks));
            }
        }
        s.refused("JET 0 of none", JetWaltz::new, Check.INDEX, w -> w.heightIn(0, 1));
        s.refused("JET 10 of ten", Basins::full, Check.INDEX, w -> w.heightIn(10, 1));
        s.says("22", "Throws `IllegalArgumentException` if ticks is not 1 to 40");
        for (int ticks : new int[] {Integer.MIN_VALUE, -1, 0, 41, 42, Integer.MAX_VALUE}) {
            s.refused("ticks " + ticks, Basins::busy, Check.ARGUMENT, w -> w.heightIn(2, ticks));
        }
    }

    private void promise23() {
        s.says("23", "- `jet`: a JET", "- `height`: a HEIGHT", "Returns the smallest SETTING of its PUMP by which it would"
                + " have that HEIGHT or more,", "NONE without one.");
        JetWaltz w = Basins.oneJet(20, 2, 0);
        w.valve(0, 4);
        // HEIGHT is PRESSURE, SETTING * 200 / 28.
        int[] heights = {0, 7, 14, 21, 28, 35, 42, 50, 57, 60, 60};
        for (int height = 1; height <= 60; height++) {
            int due = 0;
            while (heights[due] < height) {
                due++;
            }
            s.due("settingFor(0, " + height + ")", w.settingFor(0, height), due);
        }
        w.valve(0, 1);
        // 2000 / 22 / 4 = 22 at most.
        s.due("the greatest SETTING", w.settingFor(0, 22), 10);
        s.due("none is enough", w.settingFor(0, 23), -1);
        s.due("none is enough for 60", w.settingFor(0, 60), -1);
        w.valve(0, 0);
        s.due("a VALVE that is SET to 0", w.settingFor(0, 1), -1);
        JetWaltz strong = Basins.oneJet(60, 1, 0);
        strong.valve(0, 4);
        // PRESSURES 25, 50 and 75: 60 at most.
        s.due("60", strong.settingFor(0, 60), 3);
        s.due("50", strong.settingFor(0, 50), 2);
        s.due("51", strong.settingFor(0, 51), 3);
        s.due("1", strong.settingFor(0, 1), 1);
    }

    private void promise23AsSet() {
        s.says("23", "as DRIVE came to it (TRIPPED or not), and all VALVES of the PUMP (STUCK or not) stood at what they"
                + " are SET to;");
        JetWaltz w = Basins.jets(3);
        w.pump(60);
        w.jet(1, 0, 5, 0);
        w.valve(3, 4);
        for (int j = 0; j < 3; j++) {
            w.valve(j, 4);
        }
        w.setting(0, 10);
        w.pass(10);
        w.fault(0, true, false);
        w.fault(1, true, false);
        w.valve(0, 2);
        w.valve(1, 1);
        w.valve(2, 0);
        // FLOWS of 2, 1 and 0 as they are SET, none of PUMP 1: SETTING 1 gives PRESSURE 600 / 23 = 26.
        s.due("SET to 2: 13", w.settingFor(0, 13), 1);
        s.due("SET to 2: 14", w.settingFor(0, 14), 2);
        s.due("SET to 1: 6", w.settingFor(1, 6), 1);
        s.due("SET to 1: 7", w.settingFor(1, 7), 2);
        s.due("SET to 0, stands at 4", w.settingFor(2, 1), -1);
        w.valve(2, 4);
        w.pass(9);
        // FLOWS of 2, 1 and 4: PRESSURE 600 / 27 = 22.
        s.due("with another's 4: 11", w.settingFor(0, 11), 1);
        s.due("with another's 4: 12", w.settingFor(0, 12), 2);
        JetWaltz off = Basins.tripped();
        // A FLOW of 1: PRESSURE 600 / 21 = 28.
        s.due("TRIPPED: 7", off.settingFor(9, 7), 1);
        s.due("TRIPPED: 8", off.settingFor(9, 8), 2);
        JetWaltz swum = Basins.busyWithSwimmer();
        for (int j = 0; j < 3; j++) {
            s.due("all are SET to 0 as somebody swims", swum.settingFor(j, 1), -1);
        }
    }

    private void promise23Refuses() {
        s.says("23", NO_JET);
        for (int jet : NONE_OF_THREE) {
            for (int height : new int[] {0, 1, 60, 61}) {
                s.refused("settingFor(" + jet + ", " + height + ") of three", Basins::busy, Check.INDEX,
                        w -> w.settingFor(jet, height));
            }
        }
        s.refused("JET 0 of none", JetWaltz::new, Check.INDEX, w -> w.settingFor(0, 1));
        s.refused("JET 10 of ten", Basins::full, Check.INDEX, w -> w.settingFor(10, 1));
        s.says("23", "Throws `IllegalArgumentException` if height is not 1 to 60");
        for (int height : new int[] {Integer.MIN_VALUE, -1, 0, 61, 62, Integer.MAX_VALUE}) {
            s.refused("HEIGHT " + height, Basins::busy, Check.ARGUMENT, w -> w.settingFor(2, height));
        }
    }

    private void promise24() {
        s.says("24", "- `jet`: a JET", "- `height`: a HEIGHT", "Returns behind how many ticks (0: now) its HEIGHT would be"
                + " that or more, if its PUMP was set to settingFor() now");
        JetWaltz w = Basins.oneJet(20, 2, 0);
        w.valve(0, 4);
        // With SETTING 3: 200 / 22 * 1 / 4 = 2, 400 / 24 * 2 / 4 = 8, 600 / 26 * 3 / 4 = 17, 600 / 28 = 21.
        // With SETTING 2: 2, 8, 400 / 26 * 3 / 4 = 11, 400 / 28 = 14. With SETTING 1: 2, 4, 5, 7.
        int[][] rows = {{1, 1}, {2, 1}, {3, 2}, {4, 2}, {5, 3}, {6, 4}, {7, 4}, {8, 2}, {11, 3}, {12, 4}, {14, 4}, {15, 3},
            {17, 3}, {18, 4}, {21, 4}, {60, 9}};
        for (int setting : new int[] {0, 10}) {
            w.setting(0, setting);
            for (int[] row : rows) {
                s.due("SETTING " + setting + " before: leadFor(0, " + row[0] + ")", w.leadFor(0, row[0]), row[1]);
            }
        }
        w.setting(0, 5);
        w.pass(5);
        s.due("HEIGHT now", w.ofJet(0, 8), 35);
        s.due("now: leadFor(0, 35)", w.leadFor(0, 35), 0);
        s.due("now, by more than it needs: leadFor(0, 1)", w.leadFor(0, 1), 0);
        s.due("not now: leadFor(0, 36)", w.leadFor(0, 36), 1);
        s.due("SETTING is as before", w.ofPump(0, 1), 5);
    }

    private void promise24Within30() {
        s.says("24", "NONE, if not within 30,");
        for (int tick = 0; tick <= 35; tick++) {
            JetWaltz w = Basins.oneJet(60, 1, 0);
            w.valve(0, 1);
            w.figure();
            w.step(0, 0, 1, 0);
            w.step(0, tick, 1, 1);
            w.call(0, 0);
            // The VALVE is SET to 0 in tick 1, and to 1 in TICK and 1, in which it stands there at once.
            s.due("TICK " + tick + ": leadFor(0, 1)", w.leadFor(0, 1), tick <= 29 ? tick + 1 : -1);
        }
    }

    private void promise24Steps() {
        s.says("24", "(once: STEPS that are due may set it again;", "and all else went on so;");
        JetWaltz w = Basins.oneJet(20, 2, 0);
        w.valve(0, 4);
        w.figure();
        w.step(0, 1, 1, 11);
        w.step(0, 6, 1, 13);
        w.call(0, 0);
        // DRIVES 1, 1, 1, 1, 1, 1, 2, 3.
        s.due("set to 1 in tick 2 and to 3 in tick 7: leadFor(0, 21)", w.leadFor(0, 21), 8);
        s.due("leadFor(0, 14)", w.leadFor(0, 14), 7);
        s.due("before any of them: leadFor(0, 2)", w.leadFor(0, 2), 1);
        JetWaltz low = Basins.oneJet(20, 2, 0);
        low.valve(0, 4);
        low.figure();
        low.step(0, 0, 1, 11);
        low.call(0, 0);
        s.due("set to 1 for ever: leadFor(0, 14)", low.leadFor(0, 14), -1);
        s.due("set to 1 for ever: leadFor(0, 7)", low.leadFor(0, 7), 4);
        JetWaltz stuck = Basins.oneJet(20, 2, 0);
        stuck.fault(0, true, false);
        stuck.valve(0, 4);
        s.due("STUCK at 0: leadFor(0, 1)", stuck.leadFor(0, 1), -1);
        JetWaltz dry = Basins.drained(301);
        dry.valve(8, 1);
        s.due("TRIPPED before: leadFor(8, 1)", dry.leadFor(8, 1), -1);
        dry.fill(6);
        s.due("not TRIPPED before: leadFor(8, 1)", dry.leadFor(8, 1), 1);
    }

    private void promise24Tripped() {
        s.says("24", "NONE, if it is TRIPPED),");
        JetWaltz w = Basins.trippedWith(5000);
        s.due("there is a SETTING", w.settingFor(9, 1), 1);
        s.due("TRIPPED: leadFor(9, 1)", w.leadFor(9, 1), -1);
        s.due("TRIPPED: leadFor(9, 60)", w.leadFor(9, 60), -1);
        w.reset(0);
        s.due("reset: leadFor(9, 1)", w.leadFor(9, 1), 1);
    }

    private void promise24WithoutSetting() {
        s.says("24", "or without such a SETTING.");
        JetWaltz w = Basins.oneJet(20, 2, 0);
        w.valve(0, 1);
        s.due("10 is enough: leadFor(0, 22)", w.leadFor(0, 22), 10);
        s.due("none is enough: leadFor(0, 23)", w.leadFor(0, 23), -1);
        w.valve(0, 4);
        w.setting(0, 5);
        w.pass(5);
        w.valve(0, 0);
        s.due("SET to 0, though it is high now: leadFor(0, 1)", w.leadFor(0, 1), -1);
        JetWaltz swum = Basins.busyWithSwimmer();
        s.due("somebody swims, though it is high now: leadFor(0, 1)", swum.leadFor(0, 1), -1);
    }

    private void promise24Refuses() {
        s.says("24", NO_JET);
        for (int jet : NONE_OF_THREE) {
            for (int height : new int[] {0, 1, 60, 61}) {
                s.refused("leadFor(" + jet + ", " + height + ") of three", Basins::busy, Check.INDEX,
                        w -> w.leadFor(jet, height));
            }
        }
        s.refused("JET 0 of none", JetWaltz::new, Check.INDEX, w -> w.leadFor(0, 1));
        s.refused("JET 10 of ten", Basins::full, Check.INDEX, w -> w.leadFor(10, 1));
        s.says("24", "Throws `IllegalArgumentException` if height is not 1 to 60");
        for (int height : new int[] {Integer.MIN_VALUE, -1, 0, 61, 62, Integer.MAX_VALUE}) {
            s.refused("HEIGHT " + height, Basins::busy, Check.ARGUMENT, w -> w.leadFor(2, height));
            s.refused("HEIGHT " + height + ", TRIPPED", Basins::tripped, Check.ARGUMENT, w -> w.leadFor(9, height));
        }
    }

    private void promise25Wet() {
        s.says("25", "- `ticks`: how many ticks",
                "- `what`: 0 by how much the CROWD would be WET in them,", "Returns that, if all went on so.");
        for (int tick = 56; tick <= 59; tick++) {
            JetWaltz w = Basins.jets(1);
            w.setting(0, 1);
            w.wind(-1, 0);
            w.figure();
            w.step(0, tick, 1, 1);
            w.call(0, 0);
            // 1 is thrown in each tick from TICK and 1 on, and falls two ticks later.
            s.due("TICK " + tick + ": would(60, 0)", w.would(60, 0), Math.max(0, 58 - tick));
            s.due("TICK " + tick + ": would(59, 0)", w.would(59, 0), Math.max(0, 57 - tick));
            s.due("TICK " + tick + ": would(1, 0)", w.would(1, 0), 0);
        }
        JetWaltz w = Basins.jets(1);
        w.setting(0, 1);
        w.valve(0, 1);
        w.wind(-1, 0);
        w.pass(4);
        s.due("WET before", w.many(9), 2);
        s.due("WET before does not count: would(1, 0)", w.would(1, 0), 1);
        s.due("WET before does not count: would(60, 0)", w.would(60, 0), 60);
        w.wind(-4, 1);
        // What is in the air falls where it was thrown to, what would be thrown falls beyond.
        s.due("in WIND -5: would(60, 0)", w.would(60, 0), 2);
        s.due("WET", w.many(9), 2);
        s.due("without PUMPS", new JetWaltz().would(60, 0), 0);
    }

    private void promise25Water() {
        s.says("25", "1 the least WATER at the end of any of them", "Returns that, if all went on so.");
        for (int tick = 58; tick <= 60; tick++) {
            JetWaltz w = Basins.jets(1);
            w.setting(0, 1);
            w.figure();
            w.step(0, tick, 1, 1);
            w.call(0, 0);
            s.due("TICK " + tick + ": would(60, 1)", w.would(60, 1), 3000 - Math.max(0, 60 - tick));
            s.due("TICK " + tick + ": would(1, 1)", w.would(1, 1), 3000);
        }
        JetWaltz w = Basins.jets(1);
        w.setting(0, 1);
        w.valve(0, 1);
        s.due("would(1, 1)", w.would(1, 1), 2999);
        s.due("would(2, 1)", w.would(2, 1), 2998);
        s.due("would(60, 1)", w.would(60, 1), 2998);
        w.pass(2);
        w.valve(0, 0);
        s.due("it rises: would(1, 1)", w.would(1, 1), 2999);
        s.due("that of now is not one of them: would(60, 1)", w.would(60, 1), 2999);
        w.fill(5000);
        w.fill(5000);
        s.due("a full BASIN: would(60, 1)", w.would(60, 1), 9000);
        s.due("SPILT", w.many(8), 10000 + 2998 - 9000);
        JetWaltz dip = Basins.jets(1);
        dip.setting(0, 1);
        dip.figure();
        dip.step(0, 4, 1, 1);
        dip.step(0, 6, 1, 0);
        dip.call(0, 0);
        s.due("at the end of one in the midst: would(60, 1)", dip.would(60, 1), 2998);
        JetWaltz dry = Basins.drained(302);
        s.due("would(2, 1)", dry.would(2, 1), 300);
        s.due("would(3, 1)", dry.would(3, 1), 299);
        s.due("TRIPPED then: would(60, 1)", dry.would(60, 1), 299);
        s.due("without PUMPS", new JetWaltz().would(60, 1), 3000);
    }

    private void promise25Refuses() {
        s.says("25", "Throws `IllegalArgumentException` if ticks is not 1 to 60, or what not 0 or 1");
        for (int ticks : new int[] {Integer.MIN_VALUE, -1, 0, 61, 62, Integer.MAX_VALUE}) {
            for (int what = -1; what <= 2; what++) {
                int asked = what;
                s.refused("would(" + ticks + ", " + asked + ")", Basins::busy, Check.ARGUMENT, w -> w.would(ticks, asked));
            }
        }
        for (int what : new int[] {Integer.MIN_VALUE, -1, 2, 3, Integer.MAX_VALUE}) {
            s.refused("would(1, " + what + ")", Basins::busy, Check.ARGUMENT, w -> w.would(1, what));
            s.refused("would(60, " + what + ")", Basins::busy, Check.ARGUMENT, w -> w.would(60, what));
        }
    }

    private void promise26() {
        s.says("26", "Computes a checksum. A number d starts with 9115; then d becomes d * 31 + v, which wraps around as a"
                + " 64-bit integer, for each v in this order: many() of 0 to 15; PUMP by PUMP ofPump() of 0 to 6; JET by"
                + " JET ofJet() of 0 to 11, heightIn() of 5, settingFor() and leadFor() of 20; falls() of 1 to 8; CALL by"
                + " CALL open(); would() of 12 and 0, and of 12 and 1.", "Returns d.");
        JetWaltz onePump = new JetWaltz();
        onePump.pump(60);
        JetWaltz oneCall = new JetWaltz();
        oneCall.figure();
        oneCall.call(0, 0);
        // HEIGHTS 19 with SETTING 3 and 25 with SETTING 4, and it is 19 now.
        JetWaltz almost = Basins.oneJet(18, 2, 0);
        almost.setting(0, 3);
        almost.valve(0, 4);
        almost.pass(4);
        JetWaltz[] all = {new JetWaltz(), almost, onePump, oneCall, Basins.jets(1), Basins.busy(), Basins.busyWithSwimmer(),
            Basins.full(), Basins.fullAndDone(), Basins.tripped(), Basins.steady(10, 60, 3), Basins.at(5000)};
        s.due("settingFor(0, 20), not as of 19", almost.settingFor(0, 20) - almost.settingFor(0, 19), 1);
        s.due("leadFor(0, 20), not as of 19", almost.leadFor(0, 20) - almost.leadFor(0, 19), 1);
        int below = 0;
        for (int k = 0; k < all.length; k++) {
            BigInteger whole = wholeDigest(all[k]);
            long digest = all[k].digest();
            s.due("object " + k + " wraps around", whole.bitLength() > 64, true);
            s.due("object " + k, digest, whole.longValue());
            s.due("object " + k + " again", all[k].digest(), digest);
            below += digest < 0 ? 1 : 0;
        }
        s.due("some wrap around to below 0, others do not", below > 0 && below < all.length, true);
    }

    /** The checksum as it would be without wrapping around. */
    private static BigInteger wholeDigest(JetWaltz w) {
        List<Integer> values = new ArrayList<>();
        for (int what = 0; what <= 15; what++) {
            values.add(w.many(what));
        }
        for (int p = 0; p < w.many(1); p++) {
            for (int what = 0; what <= 6; what++) {
                values.add(w.ofPump(p, what));
            }
        }
        for (int j = 0; j < w.many(2); j++) {
            for (int what = 0; what <= 11; what++) {
                values.add(w.ofJet(j, what));
            }
            values.add(w.heightIn(j, 5));
            values.add(w.settingFor(j, 20));
            values.add(w.leadFor(j, 20));
        }
        for (int ticks = 1; ticks <= 8; ticks++) {
            values.add(w.falls(ticks));
        }
        for (int c = 0; c < w.many(4); c++) {
            values.add(w.open(c));
        }
        values.add(w.would(12, 0));
        values.add(w.would(12, 1));
        BigInteger d = BigInteger.valueOf(9115);
        for (int v : values) {
            d = d.multiply(BigInteger.valueOf(31)).add(BigInteger.valueOf(v));
        }
        return d;
    }
}
