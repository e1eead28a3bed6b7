/** The sentences on what a tick does. */
final class TickSentences {
    private final Sentences s;

    TickSentences(Sentences s) {
        this.s = s;
    }

    void all() {
        now();
        stepsByCallsThenSteps();
        drives();
        valves();
        comingDown();
        comingDownBeforeThrowing();
        throwing();
        airTime();
        airFull();
        placeOfFall();
        windAndGust();
        windAsItIsNow();
        energy();
        tripping();
        trippingOfEach();
        lamps();
        dangers();
    }

    private void now() {
        s.says(Sentences.TERMS, "NOW is 1 more (0 at first; 5000 at most). Then:");
        JetWaltz w = new JetWaltz();
        s.due("NOW at first", w.many(0), 0);
        w.pass(1);
        s.due("NOW behind a tick", w.many(0), 1);
        w.pass(100);
        s.due("NOW behind 100 more", w.many(0), 101);
        JetWaltz late = Basins.at(4999);
        late.pass(1);
        s.due("NOW at most", late.many(0), 5000);
        s.refused("NOW of 5001", () -> Basins.at(5000), Check.STATE, x -> x.pass(1));
    }

    private void stepsByCallsThenSteps() {
        s.says(Sentences.TERMS, "(1) STEPS of FIGURES that were CALLED and are due are done (section 3), by CALLS,"
                + " then by STEPS.");
        JetWaltz w = Basins.jets(1);
        for (int f = 0; f < 3; f++) {
            w.figure();
        }
        w.step(0, 0, 1, 3);
        w.pass(2);
        s.due("not CALLED, not done", w.ofJet(0, 4), 0);
        w.step(1, 2, 1, 4);
        w.step(1, 2, 1, 3);
        w.step(2, 1, 1, 2);
        w.step(2, 1, 1, 1);
        w.call(1, 0);
        w.pass(1);
        w.call(2, 0);
        w.pass(1);
        s.due("not due yet, not done", w.ofJet(0, 4), 0);
        w.pass(1);
        s.due("the last STEP of the last CALL", w.ofJet(0, 4), 1);
        JetWaltz other = Basins.jets(1);
        other.figure();
        other.figure();
        other.step(0, 0, 1, 4);
        other.step(0, 0, 1, 3);
        other.step(1, 1, 1, 2);
        other.call(1, 0);
        other.pass(1);
        other.call(0, 0);
        other.pass(1);
        s.due("by CALLS, neither by FIGURES nor by TICKS", other.ofJet(0, 4), 3);
        JetWaltz uneven = Basins.jets(1);
        uneven.figure();
        uneven.figure();
        uneven.step(0, 0, 1, 4);
        uneven.step(0, 0, 1, 3);
        uneven.step(1, 0, 1, 2);
        uneven.call(0, 0);
        uneven.call(1, 0);
        uneven.pass(1);
        s.due("by CALLS first: the second of CALL 0 before the first of CALL 1", uneven.ofJet(0, 4), 2);
    }

    private void drives() {
        s.says(Sentences.TERMS, "(2) PUMP by PUMP that is not TRIPPED: its DRIVE is 1 nearer to SETTING.");
        JetWaltz w = Basins.jets(1);
        int[] settings = {0, 1, 1, 3, 3, 3, 0, 10, 2, 2, 0, 0, 0};
        int[] drives = {0, 1, 1, 2, 3, 3, 2, 3, 2, 2, 1, 0, 0};
        for (int t = 0; t < settings.length; t++) {
            w.setting(0, settings[t]);
            w.pass(1);
            s.due("DRIVE in tick " + (t + 1), w.ofPump(0, 2), drives[t]);
        }
        JetWaltz off = Basins.trippedWith(5000);
        off.pass(3);
        s.due("DRIVE of a TRIPPED PUMP", off.ofPump(0, 2), 0);
    }

    private void valves() {
        s.says(Sentences.TERMS, "JET by JET whose VALVE is not STUCK: it stands 1 nearer to what it is SET to.");
        JetWaltz w = Basins.jets(2);
        int[] sets = {0, 1, 1, 4, 4, 4, 4, 0, 3, 1, 1, 0, 0, 0};
        int[] stands = {0, 1, 1, 2, 3, 4, 4, 3, 3, 2, 1, 0, 0, 0};
        for (int t = 0; t < sets.length; t++) {
            w.valve(0, sets[t]);
            w.pass(1);
            s.due("VALVE in tick " + (t + 1), w.ofJet(0, 5), stands[t]);
            s.due("the other VALVE", w.ofJet(1, 5), 0);
        }
        w.valve(0, 4);
        w.valve(1, 4);
        w.pass(2);
        w.fault(0, true, false);
        w.pass(1);
        s.due("STUCK at 2, SET to 4", w.ofJet(0, 5), 2);
        s.due("not STUCK, SET to 4", w.ofJet(1, 5), 3);
        w.valve(0, 0);
        w.pass(1);
        s.due("STUCK at 2, SET to 0", w.ofJet(0, 5), 2);
        w.fault(0, false, false);
        w.pass(1);
        s.due("STUCK no more", w.ofJet(0, 5), 1);
    }

    private void comingDown() {
        s.says(Sentences.TERMS, "(3) Water that falls in this tick comes down, in the order in which it was thrown:"
                + " in a PLACE of the BASIN into that, in one of the CROWD: that is LOST, and the CROWD is WET by as much;"
                + " beyond: LOST.");
        // Four JETS throw 1, 2, 3 and 4 at HEIGHT 5 in tick 1: into 19, onto 20 and 23, and to 24.
        JetWaltz w = new JetWaltz();
        w.pump(60);
        int[] places = {14, 15, 18, 19};
        for (int j = 0; j < 4; j++) {
            w.jet(0, places[j], 1 + j, 0);
            w.valve(j, 1);
        }
        w.wind(4, 1);
        w.setting(0, 1);
        w.pass(1);
        w.swim(true);
        for (int j = 0; j < 4; j++) {
            s.due("HEIGHT", w.ofJet(j, 8), 5);
            s.due("PLACE", w.ofJet(j, 11), places[j] + 5);
        }
        s.due("in the air", w.many(6), 10);
        s.due("none comes down yet", w.pass(1), 0);
        s.due("all come down", w.pass(1), 10);
        s.due("WATER: 1 came back", w.many(5), 2990 + 1);
        s.due("LOST: 2, 3 and 4", w.many(7), 9);
        s.due("WET: 2 and 3", w.many(9), 5);
        s.due("none in the air", w.many(6), 0);
        s.due("none more comes down", w.pass(9), 0);
    }

    private void comingDownBeforeThrowing() {
        s.says(Sentences.TERMS, "Then:", "comes down", "(4) JET by JET with a HEIGHT above 0: it throws");
        for (int water = 8998; water <= 9000; water++) {
            JetWaltz w = Basins.jets(1);
            w.setting(0, 1);
            w.valve(0, 1);
            w.pass(2);
            w.fill(5000);
            w.fill(water - w.many(5));
            s.due("came down", w.pass(1), 1);
            s.due("WATER of " + water + ": first up by 1, then down", w.many(5), Math.min(9000, water + 1) - 1);
            s.due("WATER of " + water + ": SPILT", w.many(8), water < 9000 ? 0 : 1);
        }
    }

    private void throwing() {
        s.says(Sentences.TERMS,
                "(4) JET by JET with a HEIGHT above 0: it throws as much as its FLOW, or what WATER there is.");
        // PRESSURE 100 / 30 = 3 and 3 / 4 = 0 with both, 100 / 25 = 4 and 4 / 4 = 1 with one alone.
        JetWaltz two = new JetWaltz();
        two.pump(10);
        two.jet(0, 10, 5, 0);
        two.jet(0, 10, 5, 0);
        two.valve(0, 1);
        two.valve(1, 1);
        two.setting(0, 1);
        two.pass(1);
        s.due("FLOW", two.ofJet(0, 7), 5);
        s.due("HEIGHT 0", two.ofJet(0, 8), 0);
        s.due("HEIGHT 0: thrown", two.ofJet(0, 10), 0);
        s.due("HEIGHT 0: WATER", two.many(5), 3000);
        s.due("HEIGHT 0: in the air", two.many(6), 0);
        two.valve(1, 0);
        two.pass(1);
        s.due("HEIGHT 1", two.ofJet(0, 8), 1);
        s.due("HEIGHT 1: thrown", two.ofJet(0, 10), 5);
        s.due("HEIGHT 1: WATER", two.many(5), 2995);
        s.due("HEIGHT 1: in the air", two.many(6), 5);
        s.due("FLOW 0: thrown", two.ofJet(1, 10), 0);
        JetWaltz most = Basins.oneJet(60, 5, 0);
        most.setting(0, 10);
        most.valve(0, 4);
        most.pass(4);
        int before = most.ofJet(0, 10);
        most.pass(1);
        s.due("FLOW 20: thrown", most.ofJet(0, 10), before + 20);
        JetWaltz dry = Basins.drained(301);
        int last = dry.ofJet(9, 10);
        dry.pass(2);
        s.due("thrown at 301 and 300", dry.ofJet(9, 10), last + 2);
        s.due("WATER", dry.many(5), 299);
    }

    private void airTime() {
        s.says(Sentences.TERMS, "Its AIR time is 2, and HEIGHT / 10: it falls in so many ticks,");
        // SETTING, POWER, HEIGHT by these, AIR time: the HEIGHTS on both sides of each step.
        int[][] rows = {
            {1, 10, 3, 2}, {1, 29, 9, 2}, {1, 32, 10, 3}, {2, 31, 19, 3}, {2, 32, 20, 4}, {3, 31, 29, 4}, {3, 32, 30, 5},
            {5, 25, 39, 5}, {4, 32, 40, 6}, {3, 53, 49, 6}, {5, 32, 50, 7}, {7, 27, 59, 7}, {8, 24, 60, 8}, {10, 60, 60, 8},
        };
        for (int[] row : rows) {
            JetWaltz w = Basins.steady(row[0], row[1], 0);
            s.due("HEIGHT", w.ofJet(0, 8), row[2]);
            for (int ticks = 1; ticks <= 8; ticks++) {
                s.due("HEIGHT " + row[2] + ": falls(" + ticks + ")", w.falls(ticks), ticks <= row[3] ? 12 : 0);
            }
            s.due("HEIGHT " + row[2] + ": in the air", w.many(6), 12 * row[3]);
        }
        JetWaltz first = Basins.oneJet(10, 3, 0);
        first.setting(0, 1);
        first.valve(0, 1);
        first.pass(1);
        s.due("HEIGHT 1", first.ofJet(0, 8), 1);
        s.due("HEIGHT 1: falls(1)", first.falls(1), 0);
        s.due("HEIGHT 1: falls(2)", first.falls(2), 3);
    }

    /** Ten JETS as high as can be: water of eight ticks is in the air, eighty throws. */
    private void airFull() {
        s.says(Sentences.TERMS, "it falls in so many ticks,");
        JetWaltz w = Basins.jets(10);
        w.setting(0, 10);
        for (int j = 0; j < 10; j++) {
            w.valve(j, 4);
        }
        w.pass(30);
        s.due("the least HEIGHT", w.meanHeight(), 60.0);
        s.due("in the air", w.many(6), 8 * 40);
        for (int ticks = 1; ticks <= 8; ticks++) {
            s.due("falls(" + ticks + ")", w.falls(ticks), 40);
        }
        int water = w.many(5);
        s.due("WATER and what is in the air", water + w.many(6), 3000);
        s.due("comes down", w.pass(100), 4000);
        s.due("WATER stays", w.many(5), water);
    }

    private void placeOfFall() {
        s.says(Sentences.TERMS, "in the PLACE of the JET, and SLANT times HEIGHT, divided by 10, and WIND times AIR time,"
                + " divided by 2, together (each divided by itself);");
        // SETTING and POWER, HEIGHT and AIR time by these, SLANT, WIND, how far off both are.
        int[][] rows = {
            {1, 32, 10, 3, 0, 0, 0}, {1, 36, 11, 3, -1, -1, -2 - 2}, {1, 36, 11, 3, 1, -1, 1 - 2},
            {1, 36, 11, 3, -1, 1, -2 + 1}, {1, 36, 11, 3, 1, 1, 1 + 1}, {1, 48, 15, 3, 1, 1, 1 + 1},
            {7, 27, 59, 7, 3, 4, 17 + 14}, {7, 27, 59, 7, -3, -4, -18 - 14}, {7, 27, 59, 7, 3, -3, 17 - 11},
            {7, 27, 59, 7, -3, 3, -18 + 10}, {8, 24, 60, 8, 3, 4, 18 + 16}, {8, 24, 60, 8, -3, -4, -18 - 16},
        };
        for (int[] row : rows) {
            JetWaltz w = Basins.steady(row[0], row[1], row[4]);
            w.wind(row[5], 0);
            s.due("HEIGHT", w.ofJet(0, 8), row[2]);
            int place = 10 + row[6];
            String what = "HEIGHT " + row[2] + ", SLANT " + row[4] + ", WIND " + row[5] + ": ";
            s.due(what + "PLACE", w.ofJet(0, 11), place);
            w.pass(8);
            int lost = w.many(7);
            int wet = w.many(9);
            boolean inBasin = place >= 0 && place <= 19;
            boolean inCrowd = !inBasin && place >= -4 && place <= 23;
            s.due(what + "comes down", w.pass(1), 12);
            s.due(what + "LOST", w.many(7), lost + (inBasin ? 0 : 12));
            s.due(what + "WET", w.many(9), wet + (inCrowd ? 12 : 0));
        }
    }

    private void windAndGust() {
        s.says(Sentences.TERMS, "WIND (-4 to 4; 0 at first)", "with GUST (0 at first) on top of it in its sign"
                + " (also beyond 4; none with a WIND of 0).");
        JetWaltz first = Basins.jets(1);
        s.due("PLACE at first", first.ofJet(0, 11), 0);
        s.due("WIND at first", first.wind(4, 0), 0);
        for (int wind = -4; wind <= 4; wind++) {
            for (int gust = 0; gust <= 2; gust++) {
                JetWaltz w = Basins.oneJet(10, 1, 0);
                w.wind(wind, gust);
                s.due("PLACE in WIND " + wind + " with GUST " + gust, w.ofJet(0, 11),
                        10 + wind + Integer.signum(wind) * gust);
            }
        }
        JetWaltz w = Basins.oneJet(10, 1, 0);
        w.wind(0, 2);
        w.wind(3, 0);
        s.due("GUST of before is over", w.ofJet(0, 11), 13);
    }

    private void windAsItIsNow() {
        s.says(Sentences.TERMS, "as it is now,");
        JetWaltz w = Basins.jets(1);
        w.setting(0, 1);
        w.valve(0, 1);
        int[] winds = {-4, 4, 0, -1, 1, -4, -4};
        int[] lost = {0, 0, 1, 1, 1, 2, 2};
        for (int t = 0; t < winds.length; t++) {
            w.wind(winds[t], 0);
            w.pass(1);
            // What was thrown two ticks ago, in the WIND of then, comes down.
            s.due("LOST in tick " + (t + 1), w.many(7), lost[t]);
            s.due("WET in tick " + (t + 1), w.many(9), lost[t]);
        }
    }

    private void energy() {
        s.says(Sentences.TERMS,
                "(5) ENERGY is more by DRIVE times DRIVE of each PUMP, in sum, and by 1 for each LAMP that is ON.");
        JetWaltz none = Basins.jets(10);
        none.pass(100);
        s.due("no DRIVE, no LAMP", none.many(10), 0);
        none.lamp(9, true);
        none.pass(1);
        s.due("one LAMP", none.many(10), 1);
        none.lamp(9, false);
        none.setting(0, 1);
        none.pass(1);
        s.due("DRIVE 1", none.many(10), 2);
        JetWaltz all = new JetWaltz();
        for (int p = 0; p < 3; p++) {
            all.pump(10 + 25 * p);
            all.setting(p, 10 - p);
        }
        for (int j = 0; j < 10; j++) {
            all.jet(j % 3, 0, 1, 0);
        }
        all.pass(10);
        for (int j = 0; j < 10; j++) {
            s.due("ENERGY", all.many(10), 385 + 285 + 81 + 204 + 2 * 64 + energyOfLamps(j));
            all.lamp(j, true);
            all.pass(1);
            all.setting(0, 10);
        }
    }

    /** What the DRIVES 10, 9 and 8 and 1 LAMP, then 2, then 3 use in so many ticks. */
    private static int energyOfLamps(int ticks) {
        return ticks * (100 + 81 + 64) + ticks * (ticks + 1) / 2;
    }

    private void tripping() {
        s.says(Sentences.TERMS,
                "(6) With less WATER than 300 each PUMP with a DRIVE above 0 is TRIPPED: DRIVE and SETTING are 0.");
        JetWaltz w = Basins.drained(302);
        int energy = w.many(10);
        for (int water = 301; water >= 299; water--) {
            w.pass(1);
            s.due("WATER", w.many(5), water);
            s.due("WATER of " + water + ": TRIPPED", w.ofPump(0, 4), water < 300 ? 1 : 0);
            s.due("WATER of " + water + ": DRIVE", w.ofPump(0, 2), water < 300 ? 0 : 10);
            s.due("WATER of " + water + ": SETTING", w.ofPump(0, 1), water < 300 ? 0 : 10);
            s.due("WATER of " + water + ": how often", w.ofPump(0, 6), water < 300 ? 1 : 0);
        }
        s.due("ENERGY was used before, (5)", w.many(10), energy + 300);
        w.pass(5);
        s.due("not TRIPPED again", w.ofPump(0, 6), 1);
        s.due("no ENERGY more", w.many(10), energy + 300);
        JetWaltz back = Basins.drained(300);
        back.swim(true);
        back.fault(9, true, false);
        back.pass(1);
        s.due("WATER goes on", back.many(5), 299);
        s.due("SETTING 0, but DRIVE 9: TRIPPED", back.ofPump(0, 4), 1);
        s.due("SETTING 0, but DRIVE 9: DRIVE", back.ofPump(0, 2), 0);
    }

    private void trippingOfEach() {
        s.says(Sentences.TERMS, "each PUMP with a DRIVE above 0 is TRIPPED");
        JetWaltz w = Basins.drained(301);
        w.pump(10);
        w.setting(2, 1);
        w.pass(2);
        int[] due = {1, 0, 1};
        for (int p = 0; p < 3; p++) {
            s.due("TRIPPED, with DRIVES 10, 0 and 1: PUMP " + p, w.ofPump(p, 4), due[p]);
            s.due("how often: PUMP " + p, w.ofPump(p, 6), due[p]);
        }
        w.pass(1);
        s.due("DRIVE 0 with WATER of 299: TRIPPED", w.ofPump(1, 4), 0);
        w.setting(1, 1);
        w.pass(1);
        s.due("DRIVE 1 with WATER of 299: TRIPPED", w.ofPump(1, 4), 1);
        JetWaltz down = Basins.drained(301);
        down.setting(1, 2);
        down.pass(1);
        down.setting(1, 0);
        down.pass(1);
        s.due("WATER", down.many(5), 299);
        s.due("DRIVE down from 1 to 0 in that tick: TRIPPED", down.ofPump(1, 4), 0);
        JetWaltz slow = Basins.drained(302);
        slow.setting(1, 2);
        slow.pass(2);
        slow.setting(1, 0);
        slow.pass(1);
        s.due("DRIVE down from 2 to 1 in that tick: TRIPPED", slow.ofPump(1, 4), 1);
        s.due("then DRIVE", slow.ofPump(1, 2), 0);
    }

    private void lamps() {
        s.says(Sentences.TERMS, "(7) A LAMP that is ON and LEAKS makes all LAMPS go off, and each that was ON and LEAKS is"
                + " a FAULT more;");
        for (int leaking = 0; leaking <= 10; leaking++) {
            JetWaltz w = Basins.jets(10);
            for (int j = 0; j < 10; j++) {
                w.lamp(j, true);
                w.fault(9 - j, false, j < leaking);
            }
            w.pass(1);
            s.due(leaking + " LEAK: ON", w.many(14), leaking == 0 ? 1023 : 0);
            s.due(leaking + " LEAK: FAULTS", w.many(11), leaking);
            s.due(leaking + " LEAK: ENERGY of that tick, (5)", w.many(10), 10);
            w.pass(1);
            s.due(leaking + " LEAK: FAULTS a tick later", w.many(11), leaking);
            s.due(leaking + " LEAK: ENERGY a tick later", w.many(10), leaking == 0 ? 20 : 10);
        }
        JetWaltz off = Basins.jets(10);
        for (int j = 0; j < 10; j++) {
            off.fault(j, false, j != 4);
        }
        off.lamp(4, true);
        off.pass(1);
        s.due("ON, all others LEAK but are off: ON", off.many(14), 1 << 4);
        s.due("ON, all others LEAK but are off: FAULTS", off.many(11), 0);
    }

    private void dangers() {
        s.says(Sentences.TERMS, "with somebody in the BASIN that swims that tick is a DANGER, too (once).");
        JetWaltz w = Basins.jets(10);
        w.swim(true);
        for (int j = 0; j < 10; j++) {
            w.lamp(j, true);
        }
        w.pass(1);
        s.due("LAMPS without a LEAK", w.many(12), 0);
        for (int j = 0; j < 10; j++) {
            w.fault(j, false, true);
        }
        w.pass(1);
        s.due("ten FAULTS", w.many(11), 10);
        s.due("are one DANGER", w.many(12), 1);
        w.pass(1);
        s.due("LAMPS off: DANGERS", w.many(12), 1);
        w.lamp(3, true);
        w.pass(1);
        s.due("one FAULT more", w.many(11), 11);
        s.due("is one DANGER more", w.many(12), 2);
        w.swim(false);
        w.lamp(3, true);
        w.pass(1);
        s.due("a FAULT without a swimmer", w.many(11), 12);
        s.due("is no DANGER", w.many(12), 2);
    }
}
