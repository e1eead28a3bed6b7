/** Promises 1 to 6: a new object, and what is told. */
public final class ToldTest {
    private static final Check CHECK = new Check("ToldTest");

    public static void main(String[] args) {
        promise1NewObject();
        promise1ObjectsShareNothing();
        promise2Pump();
        promise3JetAnswers();
        promise3JetRefuses();
        promise4Figure();
        promise5StepEdges();
        promise5StepRefuses();
        promise5RefusedStepIsNotThere();
        promise6Wind();
        promise6WindRefuses();
        CHECK.end();
    }

    private static void promise1NewObject() {
        JetWaltz w = new JetWaltz();
        for (int what = 0; what <= 15; what++) {
            CHECK.due("new: many(" + what + ")", w.many(what), what == 5 ? 3000 : 0);
        }
        for (int ticks = 1; ticks <= 8; ticks++) {
            CHECK.due("new: falls(" + ticks + ")", w.falls(ticks), 0);
        }
        CHECK.due("new: meanHeight()", w.meanHeight(), 0.0);
        CHECK.due("new: would(60, 0)", w.would(60, 0), 0);
        CHECK.due("new: would(60, 1)", w.would(60, 1), 3000);
        CHECK.refused("new: ofPump(0, 0)", w, Check.INDEX, () -> w.ofPump(0, 0));
        CHECK.refused("new: ofJet(0, 0)", w, Check.INDEX, () -> w.ofJet(0, 0));
        CHECK.refused("new: open(0)", w, Check.INDEX, () -> w.open(0));
        CHECK.refused("new: call(0, 0)", w, Check.INDEX, () -> w.call(0, 0));
        CHECK.due("new: swim(false)", w.swim(false), false);
        CHECK.due("new: wind(0, 0)", w.wind(0, 0), 0);
        CHECK.due("new: pass(100)", w.pass(100), 0);
    }

    private static void promise1ObjectsShareNothing() {
        JetWaltz one = new JetWaltz();
        JetWaltz other = new JetWaltz();
        long before = other.digest();
        one.pump(10);
        one.jet(0, 0, 1, 0);
        one.figure();
        one.fill(100);
        one.pass(3);
        CHECK.due("another object's digest()", other.digest(), before);
        CHECK.due("another object's pump(20)", other.pump(20), 0);
    }

    private static void promise2Pump() {
        JetWaltz w = new JetWaltz();
        CHECK.refused("pump(9)", w, Check.ARGUMENT, () -> w.pump(9));
        CHECK.refused("pump(61)", w, Check.ARGUMENT, () -> w.pump(61));
        CHECK.refused("pump(-10)", w, Check.ARGUMENT, () -> w.pump(-10));
        CHECK.refused("pump(MIN)", w, Check.ARGUMENT, () -> w.pump(Integer.MIN_VALUE));
        CHECK.refused("pump(MAX)", w, Check.ARGUMENT, () -> w.pump(Integer.MAX_VALUE));
        CHECK.due("pump(10)", w.pump(10), 0);
        CHECK.due("pump(60)", w.pump(60), 1);
        CHECK.due("pump(35)", w.pump(35), 2);
        CHECK.due("POWER of 0", w.ofPump(0, 0), 10);
        CHECK.due("POWER of 1", w.ofPump(1, 0), 60);
        CHECK.due("POWER of 2", w.ofPump(2, 0), 35);
        for (int what = 1; what <= 6; what++) {
            CHECK.due("a new PUMP: ofPump(1, " + what + ")", w.ofPump(1, what), 0);
        }
        CHECK.due("PUMPS", w.many(1), 3);
        CHECK.refused("a fourth PUMP", w, Check.STATE, () -> w.pump(30));
        CHECK.refused("a fourth PUMP of POWER 61", w, Check.ARGUMENT, () -> w.pump(61));
        CHECK.due("PUMPS still", w.many(1), 3);
    }

    private static void promise3JetAnswers() {
        JetWaltz w = new JetWaltz();
        w.pump(20);
        w.pump(30);
        CHECK.due("jet(1, 0, 1, -3)", w.jet(1, 0, 1, -3), 0);
        CHECK.due("jet(0, 19, 5, 3)", w.jet(0, 19, 5, 3), 1);
        int[] told0 = {1, 0, 1, -3};
        int[] told1 = {0, 19, 5, 3};
        for (int what = 0; what <= 3; what++) {
            CHECK.due("ofJet(0, " + what + ")", w.ofJet(0, what), told0[what]);
            CHECK.due("ofJet(1, " + what + ")", w.ofJet(1, what), told1[what]);
        }
        for (int what = 4; what <= 10; what++) {
            CHECK.due("a new JET: ofJet(1, " + what + ")", w.ofJet(1, what), 0);
        }
        for (int j = 2; j < 10; j++) {
            CHECK.due("JET " + j, w.jet(0, j, 2, 0), j);
        }
        CHECK.due("JETS", w.many(2), 10);
        CHECK.refused("an eleventh JET", w, Check.STATE, () -> w.jet(0, 0, 1, 0));
        CHECK.refused("an eleventh JET in PLACE 20", w, Check.ARGUMENT, () -> w.jet(0, 20, 1, 0));
        CHECK.refused("an eleventh JET of PUMP 2", w, Check.INDEX, () -> w.jet(2, 0, 1, 0));
        CHECK.due("JETS still", w.many(2), 10);
    }

    private static void promise3JetRefuses() {
        JetWaltz w = new JetWaltz();
        CHECK.refused("a JET without PUMPS", w, Check.INDEX, () -> w.jet(0, 0, 1, 0));
        w.pump(20);
        CHECK.refused("PUMP -1", w, Check.INDEX, () -> w.jet(-1, 0, 1, 0));
        CHECK.refused("PUMP 1", w, Check.INDEX, () -> w.jet(1, 0, 1, 0));
        CHECK.refused("PUMP MIN", w, Check.INDEX, () -> w.jet(Integer.MIN_VALUE, 0, 1, 0));
        CHECK.refused("PUMP 1, PLACE 20", w, Check.INDEX, () -> w.jet(1, 20, 0, 9));
        CHECK.refused("PLACE -1", w, Check.ARGUMENT, () -> w.jet(0, -1, 1, 0));
        CHECK.refused("PLACE 20", w, Check.ARGUMENT, () -> w.jet(0, 20, 1, 0));
        CHECK.refused("NOZZLE 0", w, Check.ARGUMENT, () -> w.jet(0, 0, 0, 0));
        CHECK.refused("NOZZLE 6", w, Check.ARGUMENT, () -> w.jet(0, 0, 6, 0));
        CHECK.refused("SLANT -4", w, Check.ARGUMENT, () -> w.jet(0, 0, 1, -4));
        CHECK.refused("SLANT 4", w, Check.ARGUMENT, () -> w.jet(0, 0, 1, 4));
        CHECK.due("the first JET", w.jet(0, 0, 1, 0), 0);
    }

    private static void promise4Figure() {
        JetWaltz w = new JetWaltz();
        for (int f = 0; f < 5; f++) {
            CHECK.due("FIGURE " + f, w.figure(), f);
            CHECK.due("FIGURES", w.many(3), f + 1);
        }
        CHECK.refused("a sixth FIGURE", w, Check.STATE, w::figure);
        CHECK.due("FIGURES still", w.many(3), 5);
        w.call(4, 0);
        CHECK.due("a FIGURE without STEPS: open(0)", w.open(0), 0);
        w.step(2, 0, 1, 1);
        w.call(3, 0);
        w.call(2, 0);
        CHECK.due("STEPS of another FIGURE: open(1)", w.open(1), 0);
        CHECK.due("its own STEP: open(2)", w.open(2), 1);
    }

    private static void promise5StepEdges() {
        JetWaltz w = new JetWaltz();
        w.figure();
        w.figure();
        int[][] told = {{0, 1, 0}, {99, 1023, 4}, {0, 1, 5}, {0, 1, 6}, {0, 1, 10}, {0, 1, 20}, {50, 512, 15}, {1, 2, 3}};
        for (int s = 0; s < told.length; s++) {
            int[] row = told[s];
            CHECK.due("STEP " + s, w.step(0, row[0], row[1], row[2]), s + 1);
        }
        CHECK.due("the first STEP of FIGURE 1", w.step(1, 5, 5, 5), 1);
        CHECK.refused("a ninth STEP", w, Check.STATE, () -> w.step(0, 0, 1, 0));
        CHECK.refused("a ninth STEP of VALUE 7", w, Check.ARGUMENT, () -> w.step(0, 0, 1, 7));
        CHECK.refused("a STEP of FIGURE 2", w, Check.INDEX, () -> w.step(2, 0, 1, 7));
        CHECK.due("the second STEP of FIGURE 1", w.step(1, 5, 5, 5), 2);
        w.call(0, 0);
        CHECK.due("all 8: open(0)", w.open(0), 8);
        w.pass(1);
        CHECK.due("TICK 0 is due: open(0)", w.open(0), 3);
        w.pass(98);
        CHECK.due("TICK 99 is not due behind 99: open(0)", w.open(0), 1);
        w.pass(1);
        CHECK.due("TICK 99 is due behind 100: open(0)", w.open(0), 0);
    }

    private static void promise5StepRefuses() {
        JetWaltz w = new JetWaltz();
        CHECK.refused("a STEP without FIGURES", w, Check.INDEX, () -> w.step(0, 0, 1, 0));
        w.figure();
        CHECK.refused("FIGURE -1", w, Check.INDEX, () -> w.step(-1, 0, 1, 0));
        CHECK.refused("FIGURE 1", w, Check.INDEX, () -> w.step(1, -1, 0, 7));
        CHECK.refused("TICK -1", w, Check.ARGUMENT, () -> w.step(0, -1, 1, 0));
        CHECK.refused("TICK 100", w, Check.ARGUMENT, () -> w.step(0, 100, 1, 0));
        CHECK.refused("JETS 0", w, Check.ARGUMENT, () -> w.step(0, 0, 0, 0));
        CHECK.refused("JETS -1", w, Check.ARGUMENT, () -> w.step(0, 0, -1, 0));
        CHECK.refused("JETS 1024", w, Check.ARGUMENT, () -> w.step(0, 0, 1024, 0));
        for (int value : new int[] {-1, 7, 8, 9, 21, Integer.MIN_VALUE, Integer.MAX_VALUE}) {
            CHECK.refused("VALUE " + value, w, Check.ARGUMENT, () -> w.step(0, 0, 1, value));
        }
        CHECK.due("the first STEP", w.step(0, 0, 1, 0), 1);
    }

    private static void promise5RefusedStepIsNotThere() {
        JetWaltz w = Basins.jets(1);
        w.figure();
        for (int s = 0; s < 8; s++) {
            w.step(0, 0, 1, 2);
        }
        CHECK.refused("a ninth STEP", w, Check.STATE, () -> w.step(0, 0, 1, 4));
        w.call(0, 0);
        CHECK.due("open(0)", w.open(0), 8);
        w.pass(1);
        CHECK.due("SET by the eighth STEP, not by a ninth", w.ofJet(0, 4), 2);
    }

    private static void promise6Wind() {
        JetWaltz w = Basins.jets(1);
        CHECK.due("wind(-4, 0)", w.wind(-4, 0), 0);
        CHECK.due("PLACE in WIND -4", w.ofJet(0, 11), -4);
        CHECK.due("wind(4, 2)", w.wind(4, 2), -4);
        CHECK.due("PLACE in WIND 4 with GUST 2", w.ofJet(0, 11), 6);
        CHECK.due("wind(-1, 2)", w.wind(-1, 2), 4);
        CHECK.due("PLACE in WIND -1 with GUST 2", w.ofJet(0, 11), -3);
        CHECK.due("wind(-4, 2)", w.wind(-4, 2), -1);
        CHECK.due("PLACE in WIND -4 with GUST 2", w.ofJet(0, 11), -6);
        CHECK.due("wind(0, 2)", w.wind(0, 2), -4);
        CHECK.due("no GUST in WIND 0", w.ofJet(0, 11), 0);
        CHECK.due("wind(3, 1)", w.wind(3, 1), 0);
        CHECK.due("PLACE in WIND 3 with GUST 1", w.ofJet(0, 11), 4);
    }

    private static void promise6WindRefuses() {
        JetWaltz w = Basins.jets(1);
        w.wind(2, 1);
        CHECK.refused("wind(-5, 0)", w, Check.ARGUMENT, () -> w.wind(-5, 0));
        CHECK.refused("wind(5, 0)", w, Check.ARGUMENT, () -> w.wind(5, 0));
        CHECK.refused("wind(1, -1)", w, Check.ARGUMENT, () -> w.wind(1, -1));
        CHECK.refused("wind(1, 3)", w, Check.ARGUMENT, () -> w.wind(1, 3));
        CHECK.refused("wind(MIN, MAX)", w, Check.ARGUMENT, () -> w.wind(Integer.MIN_VALUE, Integer.MAX_VALUE));
        CHECK.due("PLACE in WIND 2 with GUST 1", w.ofJet(0, 11), 3);
        CHECK.due("wind(0, 0)", w.wind(0, 0), 2);
    }
}
