/** The sentences that stand before the promises: basin, pumps and jets, the tick, the figures. */
final class TermsSentences {
    private final Sentences s;

    TermsSentences(Sentences s) {
        this.s = s;
    }

    void all() {
        callsOfOneObject();
        rounding();
        none();
        places();
        placesFarOff();
        waterAtFirstAndFull();
        waterAtItsLeast();
        pumps();
        jets();
        valves();
        flow();
        pressure();
        height();
    }

    private void callsOfOneObject() {
        s.says(Sentences.HEAD,
                "An object is used for at most 512 calls after it has been made; what later calls answer is free.");
        JetWaltz small = new JetWaltz();
        for (int c = 1; c <= 511; c++) {
            s.due("call " + c, small.fill(1), 3000 + c);
        }
        s.due("call 512", small.many(5), 3511);
        JetWaltz big = Basins.full();
        long digest = big.digest();
        int told = 3 + 10 + 5 * 9 + 1 + 20 + 1 + 1;
        for (int c = told + 1; c <= 512; c++) {
            s.due("full: call " + c, big.digest(), digest);
        }
        JetWaltz long511 = Basins.jets(10);
        for (int c = 12; c <= 511; c++) {
            s.due("pass in call " + c, long511.pass(10), 0);
        }
        s.due("NOW in call 512", long511.many(0), 5000);
    }

    private void rounding() {
        s.says(Sentences.TERMS, "All numbers are whole; what is divided is rounded down (below 0, too),"
                + " if nothing else is said.");
        JetWaltz w = Basins.oneJet(10, 1, -1);
        w.setting(0, 1);
        w.valve(0, 1);
        w.pass(1);
        s.due("PRESSURE 100 / 21", w.ofPump(0, 3), 4);
        s.due("HEIGHT 4 / 4", w.ofJet(0, 8), 1);
        s.due("SLANT -1 by HEIGHT 1: -1 / 10", w.ofJet(0, 11), 10 - 1);
        // POWER, its HEIGHT with SETTING 1, SLANT, and how far off that is.
        int[][] rows = {
            {10, 3, 3, 0}, {10, 3, -3, -1}, {13, 4, 3, 1}, {13, 4, -3, -2}, {31, 9, 1, 0}, {31, 9, -1, -1},
            {32, 10, 1, 1}, {32, 10, -1, -1}, {35, 10, -3, -3}, {36, 11, -3, -4}, {36, 11, 3, 3},
        };
        for (int[] row : rows) {
            JetWaltz slanted = Basins.steady(1, row[0], row[2]);
            s.due("HEIGHT", slanted.ofJet(0, 8), row[1]);
            s.due("SLANT " + row[2] + " by HEIGHT " + row[1], slanted.ofJet(0, 11), 10 + row[3]);
        }
        JetWaltz twice = Basins.oneJet(22, 1, 0);
        twice.setting(0, 1);
        twice.valve(0, 3);
        twice.pass(3);
        s.due("220 / 23 and then 27 / 4, not 660 / 92", twice.ofJet(0, 8), 6);
        JetWaltz windy = Basins.oneJet(24, 1, 0);
        windy.setting(0, 1);
        windy.valve(0, 4);
        windy.pass(4);
        windy.wind(1, 0);
        s.due("WIND 1 by AIR time 3: 3 / 2", windy.ofJet(0, 11), 10 + 1);
        windy.wind(-1, 0);
        s.due("WIND -1 by AIR time 3: -3 / 2", windy.ofJet(0, 11), 10 - 2);
        windy.wind(-2, 0);
        s.due("WIND -2 by AIR time 3: -6 / 2", windy.ofJet(0, 11), 10 - 3);
    }

    private void none() {
        s.says(Sentences.TERMS, "NONE is -1.");
        JetWaltz w = Basins.oneJet(60, 1, 0);
        s.due("settingFor() of a VALVE that is SET to 0", w.settingFor(0, 1), -1);
        s.due("leadFor() of a VALVE that is SET to 0", w.leadFor(0, 1), -1);
    }

    private void places() {
        s.says(Sentences.TERMS, "PLACES 0 to 19 lie in a row in the BASIN; -4 to -1 and 20 to 23 are those of the CROWD;"
                + " all others are beyond.");
        int[][] basin = {{1, -1}, {4, -4}, {6, -6}, {18, 1}, {15, 4}, {13, 6}, {0, 0}, {19, 0}};
        int[][] crowd = {{0, -1}, {0, -4}, {2, -6}, {3, -4}, {19, 1}, {19, 4}, {17, 6}, {16, 4}};
        int[][] beyond = {{0, -5}, {1, -6}, {0, -6}, {19, 5}, {18, 6}, {19, 6}};
        for (int[] row : basin) {
            fallsAt(row[0], row[1], 3, 0, 0);
        }
        for (int[] row : crowd) {
            fallsAt(row[0], row[1], 0, 3, 3);
        }
        for (int[] row : beyond) {
            fallsAt(row[0], row[1], 0, 3, 0);
        }
    }

    /** 3 are thrown at HEIGHT 1 without SLANT, so that they fall as many PLACES off as the WIND is strong. */
    private void fallsAt(int from, int off, int back, int lost, int wet) {
        JetWaltz w = new JetWaltz();
        w.pump(10);
        w.jet(0, from, 3, 0);
        int gust = Math.max(0, Math.abs(off) - 4);
        w.wind(off - Integer.signum(off) * gust, gust);
        w.setting(0, 1);
        w.valve(0, 1);
        w.pass(1);
        w.valve(0, 0);
        String place = "PLACE " + (from + off);
        s.due(place, w.ofJet(0, 11), from + off);
        s.due(place + ": came down", w.pass(2), 3);
        s.due(place + ": back in the BASIN", w.many(5), 2997 + back);
        s.due(place + ": LOST", w.many(7), lost);
        s.due(place + ": WET", w.many(9), wet);
    }

    private void placesFarOff() {
        s.says(Sentences.TERMS, "all others are beyond");
        int[][] rows = {{0, -3, -4, -18 - 24}, {19, 3, 4, 19 + 18 + 24}};
        for (int[] row : rows) {
            JetWaltz w = new JetWaltz();
            w.pump(60);
            w.jet(0, row[0], 1, row[1]);
            w.wind(row[2], 2);
            w.setting(0, 10);
            w.valve(0, 4);
            w.pass(30);
            s.due("the farthest PLACE", w.ofJet(0, 11), row[3]);
            int water = w.many(5);
            int lost = w.many(7);
            int wet = w.many(9);
            s.due("comes down there", w.pass(1), 4);
            s.due("WATER, with the 4 that are thrown", w.many(5), water - 4);
            s.due("LOST", w.many(7), lost + 4);
            s.due("WET", w.many(9), wet);
        }
    }

    private void waterAtFirstAndFull() {
        s.says(Sentences.TERMS,
                "The BASIN has WATER (0 to 9000; 3000 at first); what comes above 9000 is SPILT.");
        JetWaltz w = new JetWaltz();
        s.due("WATER at first", w.many(5), 3000);
        s.due("SPILT at first", w.many(8), 0);
        w.fill(5000);
        s.due("8999", w.fill(999), 8999);
        s.due("9000", w.fill(1), 9000);
        s.due("full, nothing SPILT", w.many(8), 0);
        s.due("1 above 9000", w.fill(1), 9000);
        s.due("1 SPILT", w.many(8), 1);
        s.due("5000 above 9000", w.fill(5000), 9000);
        s.due("5000 more SPILT", w.many(8), 5001);
        s.due("not LOST", w.many(7), 0);
        JetWaltz most = new JetWaltz();
        most.fill(4000);
        s.due("2000 and 5000 that fit not", most.fill(2001), 9000);
        s.due("1 of them SPILT", most.many(8), 1);
        // 3 fall into a BASIN in which there is room for 4, 3, 2, 1 and none.
        for (int room = 4; room >= 0; room--) {
            JetWaltz falls = new JetWaltz();
            falls.pump(10);
            falls.jet(0, 10, 3, 0);
            falls.setting(0, 1);
            falls.valve(0, 1);
            falls.pass(1);
            falls.valve(0, 0);
            falls.fill(5000);
            falls.fill(1003 - room);
            falls.pass(1);
            s.due("3 in the air", falls.many(6), 3);
            s.due("they come down", falls.pass(1), 3);
            s.due("room for " + room + ": WATER", falls.many(5), Math.min(9000, 9003 - room));
            s.due("room for " + room + ": SPILT", falls.many(8), Math.max(0, 3 - room));
            s.due("room for " + room + ": LOST", falls.many(7), 0);
        }
    }

    /** No run of calls gets below 100: PUMPS trip below 300, and ten JETS throw 200 at most in a tick. */
    private void waterAtItsLeast() {
        s.says(Sentences.TERMS, "The BASIN has WATER (0 to 9000; 3000 at first)",
                "it throws as much as its FLOW, or what WATER there is.");
        JetWaltz w = Basins.tenWideOpen();
        s.due("would(15, 1)", w.would(15, 1), 300);
        s.due("would(16, 1)", w.would(16, 1), 100);
        s.due("would(60, 1)", w.would(60, 1), 100);
        w.pass(15);
        s.due("WATER", w.many(5), 300);
        s.due("not TRIPPED", w.ofPump(0, 4), 0);
        int[] thrown = new int[10];
        for (int j = 0; j < 10; j++) {
            thrown[j] = w.ofJet(j, 10);
        }
        w.pass(1);
        s.due("WATER at its least", w.many(5), 100);
        for (int j = 0; j < 10; j++) {
            s.due("thrown by JET " + j, w.ofJet(j, 10), thrown[j] + 20);
        }
        s.due("TRIPPED", w.ofPump(0, 4), 1);
        w.pass(20);
        s.due("nothing more goes", w.many(5), 100);
        s.due("all that was thrown is LOST", w.many(7), 2900);
        s.due("nothing is in the air", w.many(6), 0);
    }

    private void pumps() {
        s.says(Sentences.TERMS, "PUMPS: at most 3, numbered from 0, each with a POWER (10 to 60), a SETTING (0 to 10;"
                + " 0 at first), and a DRIVE (0 to 10; 0 at first), TRIPPED or not (not at first).");
        JetWaltz w = new JetWaltz();
        s.refused("no PUMP", JetWaltz::new, Check.INDEX, x -> x.ofPump(0, 0));
        int[] powers = {10, 60, 11};
        for (int p = 0; p < 3; p++) {
            s.due("PUMPS before", w.many(1), p);
            s.due("number", w.pump(powers[p]), p);
            int[] atFirst = {powers[p], 0, 0, 0, 0, 0, 0};
            for (int what = 0; what <= 6; what++) {
                s.due("ofPump(" + p + ", " + what + ") at first", w.ofPump(p, what), atFirst[what]);
            }
        }
        s.due("three PUMPS", w.many(1), 3);
        s.refused("a fourth", Basins::full, Check.STATE, x -> x.pump(10));
        w.setting(2, 10);
        for (int t = 1; t <= 12; t++) {
            w.pass(1);
            s.due("DRIVE in tick " + t, w.ofPump(2, 2), Math.min(10, t));
        }
        w.setting(2, 0);
        for (int t = 1; t <= 12; t++) {
            w.pass(1);
            s.due("DRIVE down in tick " + t, w.ofPump(2, 2), Math.max(0, 10 - t));
        }
        s.due("the others' DRIVE", w.ofPump(1, 2), 0);
    }

    private void jets() {
        s.says(Sentences.TERMS, "JETS: at most 10, numbered from 0, each of a PUMP, at a PLACE of the BASIN,"
                + " with a NOZZLE (1 to 5), a SLANT (-3 to 3),");
        JetWaltz w = new JetWaltz();
        w.pump(10);
        w.pump(10);
        w.pump(10);
        s.refused("no JET", JetWaltz::new, Check.INDEX, x -> x.ofJet(0, 0));
        for (int j = 0; j < 10; j++) {
            int pump = j == 9 ? 2 : j % 3;
            int place = j == 9 ? 19 : j;
            s.due("JETS before", w.many(2), j);
            s.due("number", w.jet(pump, place, 1 + j % 5, j % 7 - 3), j);
            s.due("PUMP of " + j, w.ofJet(j, 0), pump);
            s.due("PLACE of " + j, w.ofJet(j, 1), place);
            s.due("NOZZLE of " + j, w.ofJet(j, 2), 1 + j % 5);
            s.due("SLANT of " + j, w.ofJet(j, 3), j % 7 - 3);
        }
        s.due("ten JETS", w.many(2), 10);
        s.refused("an eleventh", Basins::full, Check.STATE, x -> x.jet(0, 0, 1, 0));
    }

    private void valves() {
        s.says(Sentences.TERMS, "a VALVE that is SET to something (0 to 4; 0 at first) and stands at something (0 to 4;"
                + " 0 at first), STUCK or not, and a LAMP that is ON or not (not at first), and LEAKS or not"
                + " (not at first).");
        JetWaltz w = Basins.jets(10);
        for (int j = 0; j < 10; j++) {
            s.due("SET to at first", w.ofJet(j, 4), 0);
            s.due("stands at at first", w.ofJet(j, 5), 0);
            s.due("STUCK at first", w.ofJet(j, 6), 0);
            s.due("ON at first", w.ofJet(j, 9), 0);
        }
        w.valve(9, 4);
        for (int t = 1; t <= 6; t++) {
            w.pass(1);
            s.due("stands at, in tick " + t, w.ofJet(9, 5), Math.min(4, t));
        }
        w.valve(9, 0);
        for (int t = 1; t <= 6; t++) {
            w.pass(1);
            s.due("stands at, down in tick " + t, w.ofJet(9, 5), Math.max(0, 4 - t));
        }
        w.lamp(9, true);
        w.pass(1);
        s.due("LEAKS not at first: ON still", w.ofJet(9, 9), 1);
        s.due("LEAKS not at first: FAULTS", w.many(11), 0);
    }

    private void flow() {
        s.says(Sentences.TERMS, "The FLOW of a JET is its NOZZLE times where its VALVE stands.");
        for (int nozzle = 1; nozzle <= 5; nozzle++) {
            JetWaltz w = Basins.oneJet(30, nozzle, 0);
            w.valve(0, 4);
            for (int stands = 0; stands <= 4; stands++) {
                s.due("NOZZLE " + nozzle + ", VALVE at " + stands, w.ofJet(0, 7), nozzle * stands);
                w.pass(1);
            }
            w.valve(0, 1);
            s.due("NOZZLE " + nozzle + ", SET to 1, at 4", w.ofJet(0, 7), nozzle * 4);
        }
    }

    private void pressure() {
        s.says(Sentences.TERMS,
                "The PRESSURE of a PUMP is 10 times DRIVE times POWER, divided by (20, and all FLOWS of its JETS).");
        JetWaltz w = new JetWaltz();
        w.pump(60);
        w.pump(60);
        w.pump(10);
        w.setting(0, 10);
        w.setting(2, 1);
        s.due("DRIVE 0", w.ofPump(0, 3), 0);
        w.pass(1);
        s.due("DRIVE 1, POWER 10, no JET", w.ofPump(2, 3), 5);
        s.due("DRIVE 1, POWER 60, no JET", w.ofPump(0, 3), 30);
        w.pass(9);
        s.due("the greatest, without JETS", w.ofPump(0, 3), 300);
        w.jet(0, 10, 5, 0);
        s.due("a JET without FLOW", w.ofPump(0, 3), 300);
        w.jet(1, 10, 5, 0);
        w.valve(1, 4);
        w.pass(4);
        s.due("another's FLOW", w.ofPump(0, 3), 300);
        w.valve(0, 1);
        w.pass(1);
        s.due("one FLOW of 5", w.ofPump(0, 3), 6000 / 25);
        JetWaltz ten = Basins.tenWideOpen();
        ten.pass(10);
        s.due("ten FLOWS of 20", ten.ofPump(0, 3), 6000 / 220);
        JetWaltz weak = new JetWaltz();
        weak.pump(10);
        for (int j = 0; j < 4; j++) {
            weak.jet(0, j, 5, 0);
            weak.valve(j, 4);
        }
        weak.pass(4);
        weak.setting(0, 1);
        weak.pass(1);
        s.due("100 divided by 20 and 80", weak.ofPump(0, 3), 1);
        weak.jet(0, 9, 1, 0);
        weak.valve(4, 1);
        weak.pass(1);
        s.due("100 divided by 20 and 81", weak.ofPump(0, 3), 0);
    }

    private void height() {
        s.says(Sentences.TERMS, "The HEIGHT of a JET is PRESSURE times where its VALVE stands, divided by 4 (60 at most);"
                + " 0 if its FLOW is 0.");
        // With NOZZLE 3 and VALVE 4, PRESSURE and HEIGHT are 10 * SETTING * POWER / 32.
        int[][] rows = {{7, 27, 59, 59}, {8, 24, 60, 60}, {7, 28, 61, 60}, {10, 60, 187, 60}};
        for (int[] row : rows) {
            JetWaltz w = Basins.steady(row[0], row[1], 0);
            s.due("PRESSURE", w.ofPump(0, 3), row[2]);
            s.due("HEIGHT by a PRESSURE of " + row[2], w.ofJet(0, 8), row[3]);
        }
        JetWaltz none = Basins.oneJet(60, 5, 0);
        none.setting(0, 10);
        none.pass(10);
        s.due("PRESSURE with VALVE at 0", none.ofPump(0, 3), 300);
        s.due("HEIGHT with VALVE at 0", none.ofJet(0, 8), 0);
        JetWaltz still = Basins.oneJet(60, 5, 0);
        still.valve(0, 4);
        still.pass(4);
        s.due("FLOW with DRIVE 0", still.ofJet(0, 7), 20);
        s.due("HEIGHT with DRIVE 0", still.ofJet(0, 8), 0);
        JetWaltz w = Basins.oneJet(21, 1, 0);
        w.setting(0, 10);
        w.pass(10);
        w.valve(0, 4);
        for (int stands = 0; stands <= 4; stands++) {
            int due = stands == 0 ? 0 : Math.min(60, 2100 / (20 + stands) * stands / 4);
            s.due("HEIGHT, VALVE at " + stands, w.ofJet(0, 8), due);
            w.pass(1);
        }
    }
}
