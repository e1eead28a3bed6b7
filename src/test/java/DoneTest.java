/** Promises 7 to 15: what is done. */
public final class DoneTest {
    private static final Check CHECK = new Check("DoneTest");

    public static void main(String[] args) {
        promise7Valve();
        promise8Setting();
        promise8SettingOfTripped();
        promise9Reset();
        promise9ResetRefuses();
        promise10Lamp();
        promise11Fault();
        promise12Swim();
        promise12SwimAgain();
        promise13Fill();
        promise14Call();
        promise14CallRefuses();
        promise15Pass();
        promise15PassEndsAt5000();
        CHECK.end();
    }

    private static void promise7Valve() {
        JetWaltz w = Basins.jets(2);
        CHECK.due("valve(1, 4)", w.valve(1, 4), 0);
        CHECK.due("valve(1, 2)", w.valve(1, 2), 4);
        CHECK.due("SET", w.ofJet(1, 4), 2);
        CHECK.due("stands", w.ofJet(1, 5), 0);
        CHECK.due("the other's", w.ofJet(0, 4), 0);
        CHECK.refused("valve(2, 1)", w, Check.INDEX, () -> w.valve(2, 1));
        CHECK.refused("valve(-1, 1)", w, Check.INDEX, () -> w.valve(-1, 1));
        CHECK.refused("valve(1, 5)", w, Check.ARGUMENT, () -> w.valve(1, 5));
        CHECK.refused("valve(1, -1)", w, Check.ARGUMENT, () -> w.valve(1, -1));
        w.fault(1, true, false);
        CHECK.due("a STUCK one: valve(1, 3)", w.valve(1, 3), 2);
        CHECK.due("a STUCK one is SET", w.ofJet(1, 4), 3);
        w.swim(true);
        CHECK.refused("valve(1, 1) with a swimmer", w, Check.STATE, () -> w.valve(1, 1));
        CHECK.refused("valve(1, 0) with a swimmer", w, Check.STATE, () -> w.valve(1, 0));
        CHECK.refused("valve(1, 5) with a swimmer", w, Check.ARGUMENT, () -> w.valve(1, 5));
        CHECK.refused("valve(2, 5) with a swimmer", w, Check.INDEX, () -> w.valve(2, 5));
        w.swim(false);
        CHECK.due("valve(1, 0)", w.valve(1, 0), 0);
    }

    private static void promise8Setting() {
        JetWaltz w = new JetWaltz();
        CHECK.refused("setting(0, 0) without PUMPS", w, Check.INDEX, () -> w.setting(0, 0));
        w.pump(20);
        w.pump(30);
        CHECK.due("setting(1, 10)", w.setting(1, 10), 0);
        CHECK.due("setting(1, 7)", w.setting(1, 7), 10);
        CHECK.due("SETTING", w.ofPump(1, 1), 7);
        CHECK.due("DRIVE", w.ofPump(1, 2), 0);
        CHECK.due("the other's", w.ofPump(0, 1), 0);
        CHECK.refused("setting(2, 1)", w, Check.INDEX, () -> w.setting(2, 1));
        CHECK.refused("setting(-1, 11)", w, Check.INDEX, () -> w.setting(-1, 11));
        CHECK.refused("setting(1, 11)", w, Check.ARGUMENT, () -> w.setting(1, 11));
        CHECK.refused("setting(1, -1)", w, Check.ARGUMENT, () -> w.setting(1, -1));
        w.swim(true);
        CHECK.refused("setting(1, 1) with a swimmer", w, Check.STATE, () -> w.setting(1, 1));
        CHECK.refused("setting(1, 11) with a swimmer", w, Check.ARGUMENT, () -> w.setting(1, 11));
        CHECK.refused("setting(2, 1) with a swimmer", w, Check.INDEX, () -> w.setting(2, 1));
        w.swim(false);
        CHECK.due("setting(1, 0)", w.setting(1, 0), 0);
    }

    private static void promise8SettingOfTripped() {
        JetWaltz w = Basins.tripped();
        CHECK.refused("setting(0, 1) of a TRIPPED one", w, Check.STATE, () -> w.setting(0, 1));
        CHECK.refused("setting(0, 0) of a TRIPPED one", w, Check.STATE, () -> w.setting(0, 0));
        CHECK.refused("setting(0, 11) of a TRIPPED one", w, Check.ARGUMENT, () -> w.setting(0, 11));
        CHECK.due("setting(1, 3) of another", w.setting(1, 3), 0);
    }

    private static void promise9Reset() {
        JetWaltz w = Basins.tripped();
        CHECK.due("WATER", w.many(5), 299);
        CHECK.refused("reset(0) with WATER of 299", w, Check.STATE, () -> w.reset(0));
        w.fill(1);
        CHECK.due("reset(0) with WATER of 300", w.reset(0), 1);
        CHECK.due("TRIPPED", w.ofPump(0, 4), 0);
        CHECK.due("SETTING", w.ofPump(0, 1), 0);
        CHECK.due("DRIVE", w.ofPump(0, 2), 0);
        CHECK.due("how often", w.ofPump(0, 6), 1);
        CHECK.refused("reset(0) again", w, Check.STATE, () -> w.reset(0));
        CHECK.due("setting(0, 5)", w.setting(0, 5), 0);
        w.pass(1);
        CHECK.due("TRIPPED again", w.ofPump(0, 4), 1);
        w.fill(100);
        CHECK.due("reset(0) the second time", w.reset(0), 2);
    }

    private static void promise9ResetRefuses() {
        JetWaltz w = new JetWaltz();
        CHECK.refused("reset(0) without PUMPS", w, Check.INDEX, () -> w.reset(0));
        w.pump(10);
        CHECK.refused("reset(0) not TRIPPED", w, Check.STATE, () -> w.reset(0));
        CHECK.refused("reset(1)", w, Check.INDEX, () -> w.reset(1));
        CHECK.refused("reset(-1)", w, Check.INDEX, () -> w.reset(-1));
    }

    private static void promise10Lamp() {
        JetWaltz w = Basins.jets(2);
        CHECK.due("lamp(1, true)", w.lamp(1, true), false);
        CHECK.due("lamp(1, true) again", w.lamp(1, true), true);
        CHECK.due("ON", w.ofJet(1, 9), 1);
        CHECK.due("the other's", w.ofJet(0, 9), 0);
        CHECK.due("lamp(1, false)", w.lamp(1, false), true);
        CHECK.due("lamp(1, false) again", w.lamp(1, false), false);
        CHECK.refused("lamp(2, true)", w, Check.INDEX, () -> w.lamp(2, true));
        CHECK.refused("lamp(-1, true)", w, Check.INDEX, () -> w.lamp(-1, true));
        w.swim(true);
        CHECK.due("lamp(0, true) with a swimmer", w.lamp(0, true), false);
        CHECK.due("ON with a swimmer", w.many(14), 1);
        w.pass(1);
        CHECK.due("ON still", w.many(14), 1);
    }

    private static void promise11Fault() {
        JetWaltz w = Basins.jets(2);
        w.setting(0, 5);
        w.valve(0, 4);
        w.valve(1, 4);
        w.pass(1);
        CHECK.due("fault(0, true, false)", w.fault(0, true, false), false);
        CHECK.due("fault(0, true, true)", w.fault(0, true, true), true);
        CHECK.due("STUCK", w.ofJet(0, 6), 1);
        CHECK.due("the other's", w.ofJet(1, 6), 0);
        w.pass(2);
        CHECK.due("a STUCK one stands", w.ofJet(0, 5), 1);
        CHECK.due("the other moves", w.ofJet(1, 5), 3);
        CHECK.due("a STUCK one still throws", w.ofJet(0, 10), 3);
        CHECK.due("fault(0, false, true)", w.fault(0, false, true), true);
        w.lamp(0, true);
        w.pass(1);
        CHECK.due("moves on", w.ofJet(0, 5), 2);
        CHECK.due("LEAKS", w.many(11), 1);
        CHECK.due("fault(0, false, false)", w.fault(0, false, false), false);
        w.lamp(0, true);
        w.pass(1);
        CHECK.due("LEAKS no more", w.many(11), 1);
        CHECK.due("ON", w.many(14), 1);
        CHECK.refused("fault(2, true, true)", w, Check.INDEX, () -> w.fault(2, true, true));
        CHECK.refused("fault(-1, true, true)", w, Check.INDEX, () -> w.fault(-1, true, true));
    }

    private static void promise12Swim() {
        JetWaltz w = Basins.jets(2);
        w.pump(20);
        w.setting(0, 4);
        w.setting(1, 2);
        w.valve(0, 3);
        w.valve(1, 2);
        w.lamp(0, true);
        w.lamp(1, true);
        w.pass(4);
        CHECK.due("swim(true)", w.swim(true), false);
        CHECK.due("swims", w.many(15), 1);
        CHECK.due("SETTING 0", w.ofPump(0, 1), 0);
        CHECK.due("SETTING 1", w.ofPump(1, 1), 0);
        CHECK.due("DRIVE", w.ofPump(0, 2), 4);
        CHECK.due("VALVE 0 is SET to", w.ofJet(0, 4), 0);
        CHECK.due("VALVE 1 is SET to", w.ofJet(1, 4), 0);
        CHECK.due("VALVE stands at", w.ofJet(0, 5), 3);
        CHECK.due("LAMPS", w.many(14), 0);
        w.pass(1);
        CHECK.due("DRIVE goes down by 1", w.ofPump(0, 2), 3);
        CHECK.due("VALVE goes down by 1", w.ofJet(0, 5), 2);
        CHECK.due("swim(false)", w.swim(false), true);
        CHECK.due("nobody swims", w.many(15), 0);
        CHECK.due("swim(false) again", w.swim(false), false);
        w.valve(0, 2);
        w.setting(0, 1);
        w.lamp(0, true);
        w.swim(false);
        CHECK.due("swim(false) sets nothing: VALVE", w.ofJet(0, 4), 2);
        CHECK.due("swim(false) sets nothing: SETTING", w.ofPump(0, 1), 1);
        CHECK.due("swim(false) sets nothing: LAMPS", w.many(14), 1);
    }

    private static void promise12SwimAgain() {
        JetWaltz w = Basins.jets(2);
        w.swim(true);
        w.lamp(1, true);
        CHECK.due("swim(true) again", w.swim(true), true);
        CHECK.due("LAMPS go off again", w.many(14), 0);
        CHECK.due("swims still", w.many(15), 1);
    }

    private static void promise13Fill() {
        JetWaltz w = new JetWaltz();
        CHECK.due("fill(1)", w.fill(1), 3001);
        CHECK.due("fill(5000)", w.fill(5000), 8001);
        CHECK.due("fill(999)", w.fill(999), 9000);
        CHECK.due("SPILT none", w.many(8), 0);
        CHECK.due("fill(1) of a full BASIN", w.fill(1), 9000);
        CHECK.due("SPILT 1", w.many(8), 1);
        CHECK.due("fill(5000) of a full BASIN", w.fill(5000), 9000);
        CHECK.due("SPILT 5001", w.many(8), 5001);
        CHECK.due("LOST", w.many(7), 0);
        CHECK.refused("fill(0)", w, Check.ARGUMENT, () -> w.fill(0));
        CHECK.refused("fill(-1)", w, Check.ARGUMENT, () -> w.fill(-1));
        CHECK.refused("fill(5001)", w, Check.ARGUMENT, () -> w.fill(5001));
        CHECK.refused("fill(MAX)", w, Check.ARGUMENT, () -> w.fill(Integer.MAX_VALUE));
    }

    private static void promise14Call() {
        JetWaltz w = Basins.jets(3);
        w.figure();
        w.step(0, 2, 1, 3);
        w.pass(5);
        CHECK.due("call(0, 0)", w.call(0, 0), 0);
        CHECK.due("call(0, 1)", w.call(0, 1), 1);
        w.step(0, 2, 4, 2);
        CHECK.due("STEPS told later are not in it", w.open(0), 1);
        CHECK.due("CALLS", w.many(4), 2);
        w.pass(2);
        CHECK.due("not due yet", w.ofJet(0, 4), 0);
        CHECK.due("open(0) before", w.open(0), 1);
        w.pass(1);
        CHECK.due("JET 0 by CALL 0", w.ofJet(0, 4), 3);
        CHECK.due("JET 1 by CALL 1 with SHIFT 1", w.ofJet(1, 4), 3);
        CHECK.due("JET 2 by none", w.ofJet(2, 4), 0);
        CHECK.due("open(0) behind", w.open(0), 0);
        w.valve(0, 0);
        w.pass(10);
        CHECK.due("done once", w.ofJet(0, 4), 0);
        CHECK.due("call(0, 9)", w.call(0, 9), 2);
        CHECK.due("with both STEPS", w.open(2), 2);
        w.pass(3);
        CHECK.due("SHIFT 9 of 3 JETS: JET 0", w.ofJet(0, 4), 3);
        CHECK.due("SHIFT 9 of 3 JETS: JET 2", w.ofJet(2, 4), 2);
    }

    private static void promise14CallRefuses() {
        JetWaltz w = new JetWaltz();
        CHECK.refused("call(0, 0) without FIGURES", w, Check.INDEX, () -> w.call(0, 0));
        w.figure();
        CHECK.refused("call(1, 0)", w, Check.INDEX, () -> w.call(1, 0));
        CHECK.refused("call(-1, 10)", w, Check.INDEX, () -> w.call(-1, 10));
        CHECK.refused("call(0, 10)", w, Check.ARGUMENT, () -> w.call(0, 10));
        CHECK.refused("call(0, -1)", w, Check.ARGUMENT, () -> w.call(0, -1));
        for (int c = 0; c < 20; c++) {
            CHECK.due("CALL " + c, w.call(0, c % 10), c);
            w.pass(1);
        }
        CHECK.refused("a CALL more than 20", w, Check.STATE, () -> w.call(0, 0));
        CHECK.refused("a CALL more with SHIFT 10", w, Check.ARGUMENT, () -> w.call(0, 10));
        CHECK.refused("a CALL more of FIGURE 1", w, Check.INDEX, () -> w.call(1, 0));
        CHECK.due("CALLS", w.many(4), 20);
    }

    private static void promise15Pass() {
        JetWaltz w = Basins.oneJet(30, 2, 0);
        w.setting(0, 3);
        w.valve(0, 4);
        // Thrown: 2 in tick 1 (falls in 3), 4 in 2 (in 5), 6 in 3 (in 7), 8 in 4 (in 9) and on.
        CHECK.due("pass(2)", w.pass(2), 0);
        CHECK.due("pass(1)", w.pass(1), 2);
        CHECK.due("pass(1) without any", w.pass(1), 0);
        CHECK.due("pass(5)", w.pass(5), 4 + 6 + 8);
        CHECK.due("NOW", w.many(0), 9);
        CHECK.due("pass(10)", w.pass(10), 80);
        CHECK.refused("pass(0)", w, Check.ARGUMENT, () -> w.pass(0));
        CHECK.refused("pass(-1)", w, Check.ARGUMENT, () -> w.pass(-1));
        CHECK.refused("pass(101)", w, Check.ARGUMENT, () -> w.pass(101));
        CHECK.refused("pass(MAX)", w, Check.ARGUMENT, () -> w.pass(Integer.MAX_VALUE));
        CHECK.refused("pass(MIN)", w, Check.ARGUMENT, () -> w.pass(Integer.MIN_VALUE));
        JetWaltz away = Basins.oneJet(30, 2, 0);
        away.wind(4, 2);
        away.setting(0, 3);
        away.valve(0, 4);
        CHECK.due("what falls elsewhere came down, too", away.pass(9), 20);
        CHECK.due("of which LOST", away.many(7), 14);
        CHECK.due("of which on the CROWD", away.many(9), 6);
    }

    private static void promise15PassEndsAt5000() {
        JetWaltz w = new JetWaltz();
        for (int t = 0; t < 49; t++) {
            w.pass(100);
        }
        w.pass(1);
        CHECK.due("NOW", w.many(0), 4901);
        CHECK.refused("pass(100) to 5001", w, Check.STATE, () -> w.pass(100));
        CHECK.refused("pass(101) to 5002", w, Check.ARGUMENT, () -> w.pass(101));
        CHECK.due("pass(99) to 5000", w.pass(99), 0);
        CHECK.due("NOW at the end", w.many(0), 5000);
        CHECK.refused("pass(1) to 5001", w, Check.STATE, () -> w.pass(1));
        CHECK.refused("pass(0) at 5000", w, Check.ARGUMENT, () -> w.pass(0));
    }
}
