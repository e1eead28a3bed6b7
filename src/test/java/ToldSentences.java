import java.math.BigInteger;

/** The sentences of promises 1 to 6. */
final class ToldSentences {
    private final Sentences s;

    ToldSentences(Sentences s) {
        this.s = s;
    }

    void all() {
        promise1();
        promise2();
        promise2Refuses();
        promise3();
        promise3NoSuchPump();
        promise3WrongArguments();
        promise3Eleventh();
        promise4();
        promise5();
        promise5NoSuchFigure();
        promise5WrongArguments();
        promise5Ninth();
        promise6();
        promise6Refuses();
    }

    private void promise1() {
        s.says("1", "Creates a basin without PUMPS.");
        JetWaltz w = new JetWaltz();
        for (int what = 0; what <= 15; what++) {
            s.due("many(" + what + ")", w.many(what), what == 5 ? 3000 : 0);
        }
        for (int ticks = 1; ticks <= 8; ticks++) {
            s.due("falls(" + ticks + ")", w.falls(ticks), 0);
        }
        s.due("meanHeight()", w.meanHeight(), 0.0);
        BigInteger d = BigInteger.valueOf(9115);
        for (int v = 0; v < 16 + 8 + 2; v++) {
            d = d.multiply(BigInteger.valueOf(31)).add(BigInteger.valueOf(v == 5 || v == 25 ? 3000 : 0));
        }
        s.due("digest()", w.digest(), d.longValue());
        s.refused("ofPump(0, 0)", JetWaltz::new, Check.INDEX, x -> x.ofPump(0, 0));
        s.refused("ofJet(0, 0)", JetWaltz::new, Check.INDEX, x -> x.ofJet(0, 0));
        s.refused("open(0)", JetWaltz::new, Check.INDEX, x -> x.open(0));
        s.refused("call(0, 0)", JetWaltz::new, Check.INDEX, x -> x.call(0, 0));
        JetWaltz other = new JetWaltz();
        Basins.full();
        s.due("another one, made after it and told much", Twins.firstDifference(other, w), "");
    }

    private void promise2() {
        s.says("2", "Tells a PUMP.", "- `power`: its POWER", "Returns its number.");
        int[] powers = {10, 60, 35};
        JetWaltz w = new JetWaltz();
        for (int p = 0; p < 3; p++) {
            s.due("pump(" + powers[p] + ")", w.pump(powers[p]), p);
            s.due("PUMPS", w.many(1), p + 1);
            s.due("POWER", w.ofPump(p, 0), powers[p]);
        }
        for (int p = 0; p < 3; p++) {
            s.due("POWER still", w.ofPump(p, 0), powers[p]);
        }
    }

    private void promise2Refuses() {
        s.says("2", "Throws `IllegalArgumentException` if power is not 10 to 60");
        for (int power : new int[] {Integer.MIN_VALUE, -10, 0, 9, 61, 62, Integer.MAX_VALUE}) {
            s.refused("pump(" + power + ")", Basins::busy, Check.ARGUMENT, w -> w.pump(power));
            s.refused("a first pump(" + power + ")", JetWaltz::new, Check.ARGUMENT, w -> w.pump(power));
            s.refused("a fourth pump(" + power + ")", Basins::full, Check.ARGUMENT, w -> w.pump(power));
        }
        for (int power = 10; power <= 60; power++) {
            s.due("pump(" + power + ")", Basins.busy().pump(power), 2);
        }
        s.says("2", "Throws `IllegalStateException` if there are 3");
        JetWaltz w = Basins.busy();
        s.due("a third", w.pump(10), 2);
        s.refused("a fourth", Basins::full, Check.STATE, x -> x.pump(10));
        s.refused("a fourth", Basins::full, Check.STATE, x -> x.pump(60));
    }

    private void promise3() {
        s.says("3", "Tells a JET.", "- `pump`: its PUMP", "- `place`: its PLACE", "- `nozzle`: its NOZZLE",
                "- `slant`: its SLANT", "Returns its number.");
        int[][] rows = {{0, 0, 1, -3}, {2, 19, 5, 3}, {1, 0, 5, 3}, {0, 19, 1, -3}, {2, 1, 2, -2}, {1, 18, 4, 2},
            {0, 10, 3, 0}, {0, 10, 3, 1}, {2, 9, 3, -1}, {1, 10, 3, 0}};
        JetWaltz w = new JetWaltz();
        for (int p = 0; p < 3; p++) {
            w.pump(30);
        }
        for (int j = 0; j < 10; j++) {
            int[] row = rows[j];
            s.due("number", w.jet(row[0], row[1], row[2], row[3]), j);
            s.due("JETS", w.many(2), j + 1);
            for (int what = 0; what < 4; what++) {
                s.due("ofJet(" + j + ", " + what + ")", w.ofJet(j, what), row[what]);
            }
        }
        for (int p = 0; p < 3; p++) {
            int set = 0;
            for (int j = 0; j < 10; j++) {
                set |= rows[j][0] == p ? 1 << j : 0;
            }
            s.due("the set of JETS of PUMP " + p, w.ofPump(p, 5), set);
        }
    }

    private void promise3NoSuchPump() {
        s.says("3", "Throws `IndexOutOfBoundsException` if there is no such PUMP");
        for (int pump : new int[] {Integer.MIN_VALUE, -1, 2, 3, Integer.MAX_VALUE}) {
            s.refused("PUMP " + pump + " of two", Basins::busy, Check.INDEX, w -> w.jet(pump, 0, 1, 0));
            s.refused("PUMP " + pump + " of two, all wrong", Basins::busy, Check.INDEX, w -> w.jet(pump, 20, 0, 4));
        }
        for (int pump : new int[] {-1, 3}) {
            s.refused("PUMP " + pump + " of three", Basins::full, Check.INDEX, w -> w.jet(pump, 0, 1, 0));
        }
        s.refused("PUMP 0 of none", JetWaltz::new, Check.INDEX, w -> w.jet(0, 0, 1, 0));
        s.due("PUMP 0 of two", Basins.busy().jet(0, 0, 1, 0), 3);
        s.due("PUMP 1 of two", Basins.busy().jet(1, 0, 1, 0), 3);
    }

    private void promise3WrongArguments() {
        s.says("3", "Throws `IllegalArgumentException` if place is not 0 to 19, nozzle not 1 to 5, or slant not -3 to 3");
        for (int place : new int[] {Integer.MIN_VALUE, -4, -1, 20, 23, Integer.MAX_VALUE}) {
            s.refused("PLACE " + place, Basins::busy, Check.ARGUMENT, w -> w.jet(1, place, 1, 0));
        }
        for (int nozzle : new int[] {Integer.MIN_VALUE, -1, 0, 6, Integer.MAX_VALUE}) {
            s.refused("NOZZLE " + nozzle, Basins::busy, Check.ARGUMENT, w -> w.jet(1, 0, nozzle, 0));
        }
        for (int slant : new int[] {Integer.MIN_VALUE, -4, 4, Integer.MAX_VALUE}) {
            s.refused("SLANT " + slant, Basins::busy, Check.ARGUMENT, w -> w.jet(1, 0, 1, slant));
        }
        for (int place = 0; place <= 19; place++) {
            s.due("PLACE " + place, Basins.busy().jet(1, place, 1, 0), 3);
        }
        for (int nozzle = 1; nozzle <= 5; nozzle++) {
            s.due("NOZZLE " + nozzle, Basins.busy().jet(1, 0, nozzle, 0), 3);
        }
        for (int slant = -3; slant <= 3; slant++) {
            s.due("SLANT " + slant, Basins.busy().jet(1, 0, 1, slant), 3);
        }
    }

    private void promise3Eleventh() {
        s.says("3", "Throws `IllegalStateException` if there are 10");
        JetWaltz w = Basins.jets(9);
        s.due("a tenth", w.jet(0, 19, 5, 3), 9);
        s.refused("an eleventh", () -> Basins.jets(10), Check.STATE, x -> x.jet(0, 0, 1, 0));
        s.refused("an eleventh, of another PUMP", Basins::full, Check.STATE, x -> x.jet(2, 19, 5, 3));
    }

    private void promise4() {
        s.says("4", "Tells a FIGURE without STEPS.", "Returns its number.");
        JetWaltz w = Basins.jets(1);
        for (int f = 0; f < 5; f++) {
            s.due("number", w.figure(), f);
            s.due("FIGURES", w.many(3), f + 1);
            s.due("its CALL", w.call(f, 0), f);
            s.due("STEPS in that", w.open(f), 0);
            s.due("its first STEP", w.step(f, 0, 1, 1), 1);
        }
        s.says("4", "Throws `IllegalStateException` if there are 5");
        JetWaltz four = Basins.jets(1);
        for (int f = 0; f < 4; f++) {
            four.figure();
        }
        s.due("a fifth", four.figure(), 4);
        s.refused("a sixth", Basins::full, Check.STATE, x -> x.figure());
    }

    private void promise5() {
        s.says("5", "Tells a STEP.", "- `figure`: its FIGURE", "- `tick`: its TICK", "- `jets`: the set of JETS",
                "- `value`: its VALUE", "Returns how many STEPS that has then.");
        JetWaltz w = Basins.jets(10);
        w.figure();
        w.figure();
        int[][] rows = {{0, 1, 5}, {99, 1023, 0}, {0, 512, 5}, {1, 1022, 4}, {2, 1023, 20}, {3, 1, 10}, {4, 513, 6}, {98, 2, 3}};
        for (int n = 0; n < 8; n++) {
            s.due("STEPS of FIGURE 1", w.step(1, rows[n][0], rows[n][1], rows[n][2]), n + 1);
        }
        s.due("STEPS of FIGURE 0", w.step(0, 0, 1, 0), 1);
        w.call(1, 0);
        s.due("STEPS of the CALL", w.open(0), 8);
        w.pass(1);
        s.due("TICK 0: ON", w.many(14), 513);
        s.due("TICK 0: open", w.open(0), 6);
        w.pass(1);
        s.due("TICK 1: JET 0", w.ofJet(0, 4), 0);
        s.due("TICK 1: JET 9", w.ofJet(9, 4), 4);
        w.pass(1);
        s.due("TICK 2: SETTING", w.ofPump(0, 1), 10);
        w.pass(1);
        s.due("TICK 3: SETTING", w.ofPump(0, 1), 0);
        w.pass(1);
        s.due("TICK 4: ON", w.many(14), 0);
        w.pass(94);
        s.due("TICK 98: JET 1", w.ofJet(1, 4), 3);
        s.due("TICK 98: JET 9", w.ofJet(9, 4), 4);
        w.pass(1);
        s.due("TICK 99: JET 1", w.ofJet(1, 4), 0);
        s.due("TICK 99: JET 9", w.ofJet(9, 4), 0);
        s.due("TICK 99: open", w.open(0), 0);
    }

    private void promise5NoSuchFigure() {
        s.says("5", "Throws `IndexOutOfBoundsException` if there is no such FIGURE");
        for (int figure : new int[] {Integer.MIN_VALUE, -1, 2, 3, Integer.MAX_VALUE}) {
            s.refused("FIGURE " + figure + " of two", Basins::busy, Check.INDEX, w -> w.step(figure, 0, 1, 0));
            s.refused("FIGURE " + figure + " of two, all wrong", Basins::busy, Check.INDEX, w -> w.step(figure, -1, 0, 7));
        }
        for (int figure : new int[] {-1, 5}) {
            s.refused("FIGURE " + figure + " of five", Basins::full, Check.INDEX, w -> w.step(figure, 0, 1, 0));
        }
        s.refused("FIGURE 0 of none", JetWaltz::new, Check.INDEX, w -> w.step(0, 0, 1, 0));
        s.due("FIGURE 0 of two", Basins.busy().step(0, 0, 1, 0), 6);
        s.due("FIGURE 1 of two", Basins.busy().step(1, 0, 1, 0), 2);
    }

    private void promise5WrongArguments() {
        s.says("5", "Throws `IllegalArgumentException` if tick is not 0 to 99, jets not 1 to 1023, or value not 0 to 6 or 10 to 20");
        for (int tick : new int[] {Integer.MIN_VALUE, -1, 100, 101, Integer.MAX_VALUE}) {
            s.refused("TICK " + tick, Basins::busy, Check.ARGUMENT, w -> w.step(1, tick, 1, 0));
        }
        for (int jets : new int[] {Integer.MIN_VALUE, -1, 0, 1024, 1025, Integer.MAX_VALUE}) {
            s.refused("the set " + jets, Basins::busy, Check.ARGUMENT, w -> w.step(1, 0, jets, 0));
        }
        for (int value : new int[] {Integer.MIN_VALUE, -1, 7, 8, 9, 21, 22, Integer.MAX_VALUE}) {
            s.refused("VALUE " + value, Basins::busy, Check.ARGUMENT, w -> w.step(1, 0, 1, value));
            s.refused("a ninth of VALUE " + value, Basins::full, Check.ARGUMENT, w -> w.step(1, 0, 1, value));
        }
        for (int tick : new int[] {0, 1, 98, 99}) {
            s.due("TICK " + tick, Basins.busy().step(1, tick, 1, 0), 2);
        }
        for (int jets : new int[] {1, 2, 1022, 1023}) {
            s.due("the set " + jets, Basins.busy().step(1, 0, jets, 0), 2);
        }
        for (int value : new int[] {0, 1, 2, 3, 4, 5, 6, 10, 11, 12, 13, 14, 15, 16, 17, 18, 19, 20}) {
            s.due("VALUE " + value, Basins.busy().step(1, 0, 1, value), 2);
        }
    }

    private void promise5Ninth() {
        s.says("5", "Throws `IllegalStateException` if it has 8");
        JetWaltz w = Basins.busy();
        for (int n = 6; n <= 8; n++) {
            s.due("STEP " + n + " of FIGURE 0", w.step(0, 99, 1, 0), n);
        }
        s.due("FIGURE 1 has room", w.step(1, 0, 1, 0), 2);
        for (int f = 0; f < 5; f++) {
            int figure = f;
            s.refused("a ninth of FIGURE " + figure, Basins::full, Check.STATE, x -> x.step(figure, 0, 1, 0));
        }
        // A ninth STEP would show in a CALL, of which full() has no more room.
        s.refused("a ninth, to be CALLED then", ToldSentences::eightSteps, Check.STATE, x -> x.step(0, 0, 1, 4));
    }

    private static JetWaltz eightSteps() {
        JetWaltz w = Basins.jets(1);
        w.figure();
        for (int n = 1; n <= 8; n++) {
            w.step(0, 0, 1, 2);
        }
        return w;
    }

    private void promise6() {
        s.says("6", "Tells the WIND.", "- `wind`: the WIND", "- `gust`: the GUST (0 to 2)", "Returns the WIND before.");
        int before = 0;
        JetWaltz w = Basins.oneJet(10, 1, 0);
        for (int wind = -4; wind <= 4; wind++) {
            for (int gust = 0; gust <= 2; gust++) {
                s.due("wind(" + wind + ", " + gust + ")", w.wind(wind, gust), before);
                s.due("PLACE of fall", w.ofJet(0, 11), 10 + wind + Integer.signum(wind) * gust);
                before = wind;
            }
        }
        s.due("WIND before, without GUST", w.wind(0, 0), 4);
        s.due("WIND before, none", w.wind(-4, 2), 0);
        s.due("WIND before, below 0, without GUST", w.wind(0, 2), -4);
    }

    private void promise6Refuses() {
        s.says("6", "Throws `IllegalArgumentException` if wind is not -4 to 4, or gust not 0 to 2");
        for (int wind : new int[] {Integer.MIN_VALUE, -6, -5, 5, 6, Integer.MAX_VALUE}) {
            s.refused("WIND " + wind, Basins::busy, Check.ARGUMENT, w -> w.wind(wind, 0));
            s.refused("WIND " + wind + ", GUST 3", Basins::busy, Check.ARGUMENT, w -> w.wind(wind, 3));
        }
        for (int gust : new int[] {Integer.MIN_VALUE, -1, 3, Integer.MAX_VALUE}) {
            s.refused("GUST " + gust, Basins::busy, Check.ARGUMENT, w -> w.wind(4, gust));
            s.refused("GUST " + gust + " in WIND 0", Basins::busy, Check.ARGUMENT, w -> w.wind(0, gust));
        }
    }
}
