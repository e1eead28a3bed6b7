/** Promises 16 to 21: what one asks. */
public final class AskedTest {
    private static final Check CHECK = new Check("AskedTest");

    public static void main(String[] args) {
        promise16OfPump();
        promise16OfPumpTripped();
        promise16OfPumpRefuses();
        promise17OfJet();
        promise17GreatestHeight();
        promise17PlaceOfFall();
        promise17OfJetRefuses();
        promise18Falls();
        promise18FallsFarthest();
        promise19Open();
        promise19OpenWithSwimmer();
        promise20Many();
        promise20ManyInTheAir();
        promise20ManyRefuses();
        promise21MeanHeight();
        CHECK.end();
    }

    private static void promise16OfPump() {
        JetWaltz w = new JetWaltz();
        w.pump(30);
        w.pump(50);
        w.jet(0, 0, 3, 0);
        w.jet(1, 1, 2, 0);
        w.jet(0, 2, 5, 0);
        w.setting(0, 7);
        w.valve(0, 4);
        w.valve(2, 2);
        w.pass(3);
        int[] due0 = {30, 7, 3, 10 * 3 * 30 / (20 + 9 + 10), 0, 5, 0};
        int[] due1 = {50, 0, 0, 0, 0, 2, 0};
        for (int what = 0; what <= 6; what++) {
            CHECK.due("ofPump(0, " + what + ")", w.ofPump(0, what), due0[what]);
            CHECK.due("ofPump(1, " + what + ")", w.ofPump(1, what), due1[what]);
        }
        w.setting(1, 10);
        w.pass(12);
        CHECK.due("PRESSURE without FLOWS", w.ofPump(1, 3), 10 * 10 * 50 / 20);
    }

    private static void promise16OfPumpTripped() {
        JetWaltz w = Basins.tripped();
        int[] due = {60, 0, 0, 0, 1, 1023, 1};
        for (int what = 0; what <= 6; what++) {
            CHECK.due("TRIPPED: ofPump(0, " + what + ")", w.ofPump(0, what), due[what]);
        }
        CHECK.due("not TRIPPED with DRIVE 0", w.ofPump(1, 4), 0);
    }

    private static void promise16OfPumpRefuses() {
        JetWaltz w = new JetWaltz();
        w.pump(10);
        CHECK.refused("ofPump(1, 0)", w, Check.INDEX, () -> w.ofPump(1, 0));
        CHECK.refused("ofPump(-1, 9)", w, Check.INDEX, () -> w.ofPump(-1, 9));
        CHECK.refused("ofPump(0, -1)", w, Check.ARGUMENT, () -> w.ofPump(0, -1));
        CHECK.refused("ofPump(0, 7)", w, Check.ARGUMENT, () -> w.ofPump(0, 7));
    }

    private static void promise17OfJet() {
        JetWaltz w = new JetWaltz();
        w.pump(10);
        w.pump(30);
        w.jet(1, 7, 3, -2);
        w.setting(1, 5);
        w.valve(0, 4);
        w.lamp(0, true);
        w.pass(2);
        w.fault(0, true, false);
        // DRIVE 2, VALVE 2: FLOW 6, PRESSURE 600 / 26 = 23, HEIGHT 23 * 2 / 4 = 11; thrown 3, then 6.
        int[] due = {1, 7, 3, -2, 4, 2, 1, 6, 11, 1, 9, 7 - 3};
        for (int what = 0; what <= 11; what++) {
            CHECK.due("ofJet(0, " + what + ")", w.ofJet(0, what), due[what]);
        }
    }

    private static void promise17GreatestHeight() {
        JetWaltz w = Basins.oneJet(60, 1, 0);
        w.valve(0, 4);
        w.setting(0, 2);
        w.pass(4);
        // PRESSURE 1200 / 24 = 50.
        CHECK.due("HEIGHT of DRIVE 2", w.ofJet(0, 8), 50);
        w.setting(0, 3);
        w.pass(1);
        // PRESSURE 1800 / 24 = 75.
        CHECK.due("HEIGHT of DRIVE 3", w.ofJet(0, 8), 60);
        w.valve(0, 0);
        w.pass(4);
        CHECK.due("PRESSURE stays", w.ofPump(0, 3), 90);
        CHECK.due("HEIGHT without FLOW", w.ofJet(0, 8), 0);
    }

    private static void promise17PlaceOfFall() {
        JetWaltz w = Basins.oneJet(60, 1, -3);
        CHECK.due("without HEIGHT or WIND", w.ofJet(0, 11), 10);
        w.wind(-3, 0);
        CHECK.due("without HEIGHT in WIND -3: AIR time 2", w.ofJet(0, 11), 7);
        w.wind(0, 0);
        w.valve(0, 1);
        w.setting(0, 1);
        w.pass(1);
        // PRESSURE 600 / 21 = 28, HEIGHT 7: -21 / 10 is -3, AIR time 2.
        CHECK.due("rounded down below 0", w.ofJet(0, 11), 7);
        w.valve(0, 2);
        w.pass(1);
        // PRESSURE 600 / 22 = 27, HEIGHT 13: -39 / 10 is -4, AIR time 3.
        CHECK.due("SLANT alone", w.ofJet(0, 11), 6);
        w.wind(-1, 0);
        // -1 * 3 / 2 is -2; together they would be -5.4.
        CHECK.due("SLANT and WIND each rounded down", w.ofJet(0, 11), 4);
        w.wind(1, 0);
        CHECK.due("WIND against SLANT", w.ofJet(0, 11), 7);
        w.wind(-4, 2);
        CHECK.due("WIND -4 with GUST 2", w.ofJet(0, 11), 10 - 4 - 9);
    }

    private static void promise17OfJetRefuses() {
        JetWaltz w = Basins.jets(2);
        CHECK.refused("ofJet(2, 0)", w, Check.INDEX, () -> w.ofJet(2, 0));
        CHECK.refused("ofJet(-1, 12)", w, Check.INDEX, () -> w.ofJet(-1, 12));
        CHECK.refused("ofJet(1, -1)", w, Check.ARGUMENT, () -> w.ofJet(1, -1));
        CHECK.refused("ofJet(1, 12)", w, Check.ARGUMENT, () -> w.ofJet(1, 12));
    }

    private static void promise18Falls() {
        JetWaltz w = Basins.oneJet(30, 2, 0);
        w.setting(0, 3);
        w.valve(0, 4);
        w.pass(4);
        // In the air: 4 that fall in tick 5, 6 in 7, 8 in 9.
        int[] due = {4, 0, 6, 0, 8, 0, 0, 0};
        for (int ticks = 1; ticks <= 8; ticks++) {
            CHECK.due("falls(" + ticks + ")", w.falls(ticks), due[ticks - 1]);
        }
        CHECK.refused("falls(0)", w, Check.ARGUMENT, () -> w.falls(0));
        CHECK.refused("falls(9)", w, Check.ARGUMENT, () -> w.falls(9));
        CHECK.refused("falls(-1)", w, Check.ARGUMENT, () -> w.falls(-1));
    }

    private static void promise18FallsFarthest() {
        JetWaltz w = Basins.oneJet(60, 1, 0);
        w.wind(4, 0);
        w.setting(0, 10);
        w.valve(0, 4);
        w.pass(30);
        for (int ticks = 1; ticks <= 8; ticks++) {
            CHECK.due("at HEIGHT 60: falls(" + ticks + ")", w.falls(ticks), 4);
        }
        CHECK.due("in the air", w.many(6), 32);
        w.valve(0, 3);
        w.pass(1);
        CHECK.due("then: falls(7)", w.falls(7), 4);
        CHECK.due("then: falls(8)", w.falls(8), 3);
        CHECK.due("pass(8) brings these down", w.pass(8), 7 * 4 + 3);
    }

    private static void promise19Open() {
        JetWaltz w = Basins.jets(1);
        w.figure();
        w.step(0, 0, 1, 0);
        w.step(0, 3, 1, 0);
        w.step(0, 3, 512, 0);
        w.step(0, 99, 1, 0);
        w.pass(7);
        w.call(0, 0);
        CHECK.due("at once", w.open(0), 4);
        w.pass(1);
        w.call(0, 0);
        CHECK.due("behind 1 tick", w.open(0), 3);
        CHECK.due("a CALL later", w.open(1), 4);
        w.pass(2);
        CHECK.due("behind 3 ticks", w.open(0), 3);
        w.pass(1);
        CHECK.due("behind 4 ticks", w.open(0), 1);
        CHECK.due("the later behind 3", w.open(1), 3);
        w.pass(95);
        CHECK.due("behind 99 ticks", w.open(0), 1);
        w.pass(1);
        CHECK.due("behind 100 ticks", w.open(0), 0);
        CHECK.due("the later behind 99", w.open(1), 1);
        CHECK.refused("open(2)", w, Check.INDEX, () -> w.open(2));
        CHECK.refused("open(-1)", w, Check.INDEX, () -> w.open(-1));
    }

    private static void promise19OpenWithSwimmer() {
        JetWaltz w = Basins.jets(1);
        w.figure();
        w.step(0, 1, 1, 4);
        w.step(0, 5, 1, 3);
        w.call(0, 0);
        w.swim(true);
        w.pass(3);
        CHECK.due("passed over is due, too", w.open(0), 1);
        w.swim(false);
        CHECK.due("passed over for ever", w.open(0), 1);
        w.pass(1);
        CHECK.due("not done later", w.ofJet(0, 4), 0);
        w.pass(2);
        CHECK.due("what is due later is done", w.ofJet(0, 4), 3);
    }

    private static void promise20Many() {
        JetWaltz w = new JetWaltz();
        w.pump(30);
        w.pump(60);
        w.jet(0, 10, 2, 0);
        w.jet(0, 0, 1, 0);
        w.jet(1, 0, 1, 0);
        w.figure();
        w.call(0, 0);
        w.call(0, 0);
        w.call(0, 0);
        w.wind(4, 2);
        w.setting(0, 3);
        w.valve(0, 4);
        w.lamp(0, true);
        w.lamp(2, true);
        w.fault(0, false, true);
        w.fault(2, false, true);
        w.pass(1);
        w.lamp(1, true);
        w.fill(5000);
        w.fill(2000);
        w.pass(8);
        w.swim(true);
        w.lamp(0, true);
        w.lamp(2, true);
        w.pass(1);
        w.lamp(1, true);
        // As in the DoneTest: 2, 4, 6, 8 thrown in ticks 1 to 4, 8 in each of 5 to 9, in WIND 6.
        // In tick 10 DRIVE is 2, VALVE 3: FLOW 6, PRESSURE 600 / 26 = 23, HEIGHT 17: 6 thrown.
        // The 2 and 4 fall into the BASIN, the 6 onto the CROWD, the 8 of ticks 4 and 5 beyond.
        int spilt = 2998 + 7000 - 9000;
        int water = 9000 - (4 + 6 + 8 * 6 + 6) + 2 + 4;
        int driven = 1 + 4 + 9 * 7 + 4;
        int lit = 2 + 8 + 2;
        long[] due = {10, 2, 3, 1, 3, water, 8 * 4 + 6, 6 + 8 + 8, spilt, 6, driven + lit, 4, 1, 17, 2, 1};
        for (int what = 0; what <= 15; what++) {
            CHECK.due("many(" + what + ")", w.many(what), due[what]);
        }
    }

    private static void promise20ManyInTheAir() {
        JetWaltz w = Basins.oneJet(30, 2, 0);
        w.wind(4, 2);
        w.setting(0, 3);
        w.valve(0, 4);
        w.pass(4);
        // 4 that will fall into the BASIN, 6 onto the CROWD, 8 beyond.
        CHECK.due("in the air, wherever it will fall", w.many(6), 4 + 6 + 8);
        CHECK.due("falls(1), into the BASIN", w.falls(1), 4);
        CHECK.due("falls(3), onto the CROWD", w.falls(3), 6);
        CHECK.due("falls(5), beyond", w.falls(5), 8);
    }

    private static void promise20ManyRefuses() {
        JetWaltz w = new JetWaltz();
        CHECK.refused("many(-1)", w, Check.ARGUMENT, () -> w.many(-1));
        CHECK.refused("many(16)", w, Check.ARGUMENT, () -> w.many(16));
        CHECK.refused("many(MAX)", w, Check.ARGUMENT, () -> w.many(Integer.MAX_VALUE));
        CHECK.refused("many(MIN)", w, Check.ARGUMENT, () -> w.many(Integer.MIN_VALUE));
    }

    private static void promise21MeanHeight() {
        JetWaltz w = new JetWaltz();
        CHECK.due("without JETS", w.meanHeight(), 0.0);
        w.pump(60);
        w.jet(0, 0, 1, 0);
        w.jet(0, 0, 1, 0);
        w.jet(0, 0, 1, 0);
        CHECK.due("without HEIGHT", w.meanHeight(), 0.0);
        w.valve(0, 1);
        w.valve(2, 1);
        w.setting(0, 1);
        w.pass(1);
        // PRESSURE 600 / 22 = 27, HEIGHTS 6, 0 and 6.
        CHECK.due("of three", w.meanHeight(), 12.0 / 3);
        w.valve(2, 2);
        w.pass(1);
        // PRESSURE 600 / 23 = 26, HEIGHTS 6, 0 and 13.
        CHECK.due("not rounded", w.meanHeight(), 19.0 / 3);
    }
}
