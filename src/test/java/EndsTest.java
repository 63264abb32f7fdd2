/**
 * Promises 2 to 24: of each argument the last values that are right, with what they answer and do, and
 * the first ones that are not. What the section 'Terms' says of boundaries is looked at by TermsTest.
 */
public final class EndsTest {
    private static final int INVALID = -1000000001;
    private static final int NOT_POSSIBLE = -1000000002;
    private static final int LIMIT = -1000000003;
    private static final int NOT_FOUND = -1000000004;

    private static final Due DUE = new Due("EndsTest");

    public static void main(String[] args) {
        gates();
        turbines();
        pump();
        birds();
        run();
        dredge();
        set();
        sea();
        now();
        record();
        next();
        would();
        seaAt();
        seaAtTheLatest();
        best();
        bestOfSeveral();
        gatesFor();
        gatesForOfSeveral();
        bestDay();
        bestDayOfTwo();
        share();
        count();
        countsOfManyTicks();
        undo();
        type();
        clearText();
        fault();
        play();
        DUE.end();
    }

    /** Promise 2: many is 0 to 8. */
    private static void gates() {
        LagoonGates x = new LagoonGates();
        for (int many = 0; many <= 8; many++) {
            DUE.is("gates(" + many + ")", x.gates(many), Math.max(0, many - 1));
            DUE.now("behind gates(" + many + ")", x, 8, many);
        }
        DUE.is("gates(9)", x.gates(9), INVALID);
        DUE.now("behind gates(9)", x, 8, 8);
        DUE.is("gates(-1)", x.gates(-1), INVALID);
        DUE.now("behind gates(-1)", x, 8, 8);
    }

    /** Promise 3: many is 0 to 6. */
    private static void turbines() {
        LagoonGates x = new LagoonGates();
        for (int many = 0; many <= 6; many++) {
            DUE.is("turbines(" + many + ")", x.turbines(many), Math.max(0, many - 1));
            DUE.now("behind turbines(" + many + ")", x, 9, many);
        }
        DUE.is("turbines(7)", x.turbines(7), INVALID);
        DUE.now("behind turbines(7)", x, 9, 6);
        DUE.is("turbines(-1)", x.turbines(-1), INVALID);
        DUE.now("behind turbines(-1)", x, 9, 6);
    }

    /** Promise 4: flow is -500 to 500. */
    private static void pump() {
        LagoonGates x = new LagoonGates();
        int[] right = {-500, -499, -1, 0, 1, 499, 500};
        int before = 0;
        for (int flow : right) {
            DUE.is("pump(" + flow + ")", x.pump(flow), before);
            DUE.now("behind pump(" + flow + ")", x, 10, flow);
            before = flow;
        }
        DUE.is("pump(501)", x.pump(501), INVALID);
        DUE.now("behind pump(501)", x, 10, 500);
        DUE.is("pump(-501)", x.pump(-501), INVALID);
        DUE.now("behind pump(-501)", x, 10, 500);
    }

    /** Promise 5: from is 0 to 143, to is 0 to 144. */
    private static void birds() {
        int[][] rows = {{0, 0, 0}, {0, 1, 1}, {0, 144, 144}, {143, 0, 0}, {143, 143, 0}, {143, 144, 1}, {1, 0, 0},
            {72, 72, 0}, {71, 72, 1}, {72, 71, 0}};
        for (int[] row : rows) {
            DUE.is("birds(" + row[0] + ", " + row[1] + ")", new LagoonGates().birds(row[0], row[1]), row[2]);
        }
        LagoonGates x = new LagoonGates();
        x.birds(0, 1);
        int[][] wrong = {{-1, 0}, {-1, 144}, {144, 0}, {144, 144}, {0, -1}, {143, -1}, {0, 145}, {143, 145}, {-1, -1},
            {144, 145}};
        for (int[] row : wrong) {
            DUE.is("birds(" + row[0] + ", " + row[1] + ")", x.birds(row[0], row[1]), INVALID);
            DUE.now("behind it", x, 11, 1);
        }
        DUE.is("states behind them", x.count(8), 1);
    }

    /** Promise 6: ticks are 1 to 300, and the time at most 9999. */
    private static void run() {
        LagoonGates x = new LagoonGates();
        DUE.is("run(0)", x.run(0), INVALID);
        DUE.is("run(301)", x.run(301), INVALID);
        DUE.now("behind them", x, 0, 0);
        DUE.is("run(1)", x.run(1), 0);
        DUE.now("behind run(1)", x, 0, 1);
        DUE.is("run(300)", x.run(300), 0);
        DUE.now("behind run(300)", x, 0, 301);
        int[][] rows = {{9699, 300, 9999}, {9700, 300, LIMIT}, {9700, 299, 9999}, {9998, 1, 9999}, {9998, 2, LIMIT},
            {9999, 1, LIMIT}, {9999, 300, LIMIT}, {9999, 301, INVALID}, {9999, 0, INVALID}};
        for (int[] row : rows) {
            LagoonGates late = Lagoons.at(row[0]);
            boolean right = row[2] > 0;
            DUE.is("run(" + row[1] + ") at " + row[0], late.run(row[1]), right ? 0 : row[2]);
            DUE.now("behind run(" + row[1] + ") at " + row[0], late, 0, right ? row[2] : row[0]);
        }
    }

    /** Promise 7: much is 1 to 20000, and no more than there is. */
    private static void dredge() {
        LagoonGates none = new LagoonGates();
        DUE.is("dredge(0) of none", none.dredge(0), INVALID);
        DUE.is("dredge(1) of none", none.dredge(1), NOT_POSSIBLE);
        DUE.is("dredge(20000) of none", none.dredge(20000), NOT_POSSIBLE);
        DUE.is("dredge(20001) of none", none.dredge(20001), INVALID);
        LagoonGates all = Lagoons.silted();
        DUE.is("dredge(20001) of 20000", all.dredge(20001), INVALID);
        DUE.is("dredge(20000) of 20000", all.dredge(20000), 0);
        DUE.now("behind it", all, 7, 0);
        DUE.is("dredged", all.count(4), 20000);
        DUE.is("dredge(1) of 0", all.dredge(1), NOT_POSSIBLE);
        all.undo();
        DUE.is("dredge(1) of 20000", all.dredge(1), 19999);
        DUE.is("dredge(20000) of 19999", all.dredge(20000), NOT_POSSIBLE);
        DUE.is("dredge(0) of 19999", all.dredge(0), INVALID);
        DUE.now("behind errors", all, 7, 19999);
        DUE.is("dredge(19998) of 19999", all.dredge(19998), 1);
        DUE.is("dredge(2) of 1", all.dredge(2), NOT_POSSIBLE);
        DUE.is("dredge(1) of 1", all.dredge(1), 0);
        DUE.is("dredged in all", all.count(4), 20000);
    }

    /** Promise 8: what is 0 to 2, and each value in its own range. */
    private static void set() {
        LagoonGates x = new LagoonGates();
        DUE.is("set(-1, 100)", x.set(-1, 100), INVALID);
        DUE.is("set(3, 100)", x.set(3, 100), INVALID);
        int[][] wrong = {{0, 0}, {0, 401}, {0, 9999}, {1, -1}, {1, 401}, {1, 9999}, {2, 0}, {2, 10000}};
        for (int[] row : wrong) {
            DUE.is("set(" + row[0] + ", " + row[1] + ")", x.set(row[0], row[1]), INVALID);
        }
        DUE.is("states behind errors", x.count(8), 0);
        int[][] right = {{0, 1, 120}, {0, 400, 1}, {1, 0, 40}, {1, 400, 0}, {2, 1, 1500}, {2, 401, 1}, {2, 9999, 401}};
        for (int[] row : right) {
            DUE.is("set(" + row[0] + ", " + row[1] + ")", x.set(row[0], row[1]), row[2]);
            DUE.is("behind it", x.count(20 + row[0]), row[1]);
        }
    }

    /** Promise 9: time is 0 to 9999, whatever the time is now. */
    private static void sea() {
        LagoonGates[] some = {new LagoonGates(), Lagoons.at(9999)};
        for (LagoonGates x : some) {
            DUE.is("sea(-1)", x.sea(-1), INVALID);
            DUE.is("sea(0)", x.sea(0), -340);
            DUE.is("sea(9999)", x.sea(9999), -165);
            DUE.is("sea(10000)", x.sea(10000), INVALID);
        }
    }

    /** Promise 10: what is 0 to 12. */
    private static void now() {
        LagoonGates x = Lagoons.at(9999);
        DUE.is("now(-1)", x.now(-1), INVALID);
        DUE.is("now(13)", x.now(13), INVALID);
        DUE.now("at 9999", x, 0, 9999, 1, 69, 2, 63, 3, -165, 4, 0, 5, -165, 11, 0, 12, 320);
        LagoonGates y = new LagoonGates();
        DUE.now("at 0", y, 0, 0, 1, 0, 2, 0, 3, -340, 4, 0, 5, -340, 11, 0, 12, 340);
    }

    /** Promise 11: a day from 0 on, what is 0 to 5. */
    private static void record() {
        LagoonGates x = Lagoons.at(1);
        DUE.is("record(-1, 0)", x.record(-1, 0), INVALID);
        DUE.is("record(0, 0)", x.record(0, 0), 0);
        DUE.is("record(1, 0)", x.record(1, 0), NOT_FOUND);
        DUE.is("record(0, -1)", x.record(0, -1), INVALID);
        DUE.is("record(0, 5)", x.record(0, 5), 0);
        DUE.is("record(0, 6)", x.record(0, 6), INVALID);
        DUE.is("record(1, -1)", x.record(1, -1), INVALID);
        DUE.is("record(1, 6)", x.record(1, 6), INVALID);
        DUE.is("record(-1, 6)", x.record(-1, 6), INVALID);
        DUE.is("record(2147483647, 5)", x.record(2147483647, 5), NOT_FOUND);
        DUE.is("record(-2147483648, 5)", x.record(-2147483648, 5), INVALID);
    }

    /** Promise 12: what is 0 to 6. */
    private static void next() {
        LagoonGates x = Lagoons.at(37);
        x.gates(8);
        x.turbines(6);
        x.pump(500);
        x.set(1, 400);
        DUE.is("next(-1)", x.next(-1), INVALID);
        DUE.next("at the high sea", x, 5440, 2040, 500, 7980, 6936, 1800, 159);
        DUE.is("next(7)", x.next(7), INVALID);
    }

    /** Promise 13: ticks are 0 to 300, what is 0 to 3; no tick leaves all as it is. */
    private static void would() {
        LagoonGates x = Lagoons.silted();
        x.gates(5);
        x.set(0, 1);
        x.turbines(6);
        x.pump(500);
        DUE.is("would(-1, 0)", x.would(-1, 0), INVALID);
        DUE.is("would(301, 0)", x.would(301, 0), INVALID);
        DUE.is("would(0, -1)", x.would(0, -1), INVALID);
        DUE.is("would(0, 4)", x.would(0, 4), INVALID);
        DUE.is("would(300, -1)", x.would(300, -1), INVALID);
        DUE.is("would(300, 4)", x.would(300, 4), INVALID);
        int[] none = {160, 0, 0, 20000};
        for (int what = 0; what <= 3; what++) {
            DUE.is("would(0, " + what + ")", x.would(0, what), none[what]);
        }
        // Energy that was made and used before is none of theirs.
        x.run(100);
        DUE.holds("made and used before", x.count(0) > 0 && x.count(1) > 0);
        int[] ticks = {1, 299, 300};
        for (int many : ticks) {
            int[] told = {x.would(many, 0), x.would(many, 1), x.would(many, 2), x.would(many, 3)};
            int made = x.count(0);
            int used = x.count(1);
            int[] comes = {x.run(many), x.count(0) - made, x.count(1) - used, x.now(7)};
            for (int what = 0; what <= 3; what++) {
                DUE.is("would(" + many + ", " + what + ")", told[what], comes[what]);
            }
            x.undo();
        }
        LagoonGates last = Lagoons.at(9999);
        last.gates(1);
        DUE.is("would(0, 0) at 9999", last.would(0, 0), 0);
        DUE.holds("would(300, 0) at 9999", last.would(300, 0) > INVALID);
    }

    /** Promise 14: level is -400 to 400; the sea is at it or above; now counts too. */
    private static void seaAt() {
        LagoonGates x = new LagoonGates();
        int[][] rows = {{-401, INVALID}, {-400, 0}, {-341, 0}, {-340, 0}, {-339, 1}, {-322, 1}, {-321, 2}, {321, 36},
            {322, 37}, {340, 37}, {341, NOT_FOUND}, {400, NOT_FOUND}, {401, INVALID}};
        for (int[] row : rows) {
            DUE.is("seaAt(" + row[0] + ") at 0", x.seaAt(row[0]), row[1]);
        }
        x.run(37);
        DUE.is("seaAt(340) at 37", x.seaAt(340), 0);
        DUE.is("seaAt(341) at 37", x.seaAt(341), NOT_FOUND);
        x.run(1);
        DUE.is("seaAt(322) at 38", x.seaAt(322), 0);
        DUE.is("seaAt(323) at 38", x.seaAt(323), 73);
        // The phase is 36 at 110, and 37 at 111 is the last high sea of day 0.
        DUE.is("seaAt(340) at 111", Lagoons.at(111).seaAt(340), 0);
        DUE.is("seaAt(340) at 112", Lagoons.at(112).seaAt(340), 1923);
    }

    /** 0 to 2016: the longest that the sea is waited for is 1997, from behind day 28's last high sea on. */
    private static void seaAtTheLatest() {
        LagoonGates x = Lagoons.at(4107);
        DUE.is("seaAt(340) at 4107", x.seaAt(340), 0);
        x.run(1);
        DUE.is("seaAt(340) at 4108", x.seaAt(340), 1997);
        DUE.is("sea(6105)", x.sea(6105), 340);
        DUE.is("seaAt(341) at 4108", x.seaAt(341), NOT_FOUND);
        x.run(1);
        DUE.is("seaAt(340) at 4109", x.seaAt(340), 1996);
        // The sea behind the last time is looked at too: 10101 is a high sea of day 70.
        LagoonGates last = Lagoons.at(9999);
        DUE.is("seaAt(-165) at 9999", last.seaAt(-165), 0);
        DUE.is("seaAt(340) at 9999", last.seaAt(340), 102);
        DUE.is("seaAt(400) at 9999", last.seaAt(400), NOT_FOUND);
    }

    /** Promise 15: ticks are 1 to 150, what is 0 or 1. */
    private static void best() {
        LagoonGates x = new LagoonGates();
        int[][] wrong = {{0, 0}, {0, 1}, {151, 0}, {151, 1}, {1, -1}, {1, 2}, {150, -1}, {150, 2}};
        for (int[] row : wrong) {
            DUE.is("best(" + row[0] + ", " + row[1] + ")", x.best(row[0], row[1]), INVALID);
        }
        DUE.is("best(1, 0)", x.best(1, 0), 6);
        DUE.is("best(1, 1)", x.best(1, 1), 6936);
        x.gates(1);
        int[] ticks = {1, 2, 149, 150};
        for (int many : ticks) {
            int number = x.best(many, 0);
            int gain = x.best(many, 1);
            for (int open = 0; open <= 6; open++) {
                x.turbines(open);
                int made = x.would(many, 1) - x.would(many, 2);
                boolean right = open < number ? made < gain : open == number ? made == gain : made <= gain;
                DUE.holds("best(" + many + ") as against " + open, right);
                x.undo();
            }
        }
        LagoonGates last = Lagoons.at(9999);
        DUE.is("best(1, 1) at 9999", last.best(1, 1), 6 * 165 * 165 / 100);
    }

    private static void bestOfSeveral() {
        LagoonGates none = new LagoonGates();
        none.set(0, 340);
        DUE.is("best(1, 0), head at the least head", none.best(1, 0), 6);
        none.set(0, 341);
        none.turbines(3);
        DUE.is("best(1, 0), head below the least head", none.best(1, 0), 0);
        DUE.is("best(1, 1), head below the least head", none.best(1, 1), 0);
        // At a head of 5, 25 / 100 for each turbine: 4 of them make 1, and so do 5 and 6.
        LagoonGates four = Lagoons.pumped(-133, 3, 56);
        DUE.now("39601 of water", four, 3, -9, 4, -4, 5, -5);
        four.set(0, 1);
        DUE.is("best(1, 0) of 4, 5 and 6", four.best(1, 0), 4);
        DUE.is("best(1, 1) of 4, 5 and 6", four.best(1, 1), 1);
        LagoonGates below = new LagoonGates();
        below.set(0, 400);
        below.set(1, 340);
        below.pump(500);
        DUE.is("best(1, 0), energy below 0", below.best(1, 0), 0);
        DUE.is("best(1, 1), energy below 0", below.best(1, 1), -1800);
    }

    /** Promise 16: ticks are 1 to 150, level is -400 to 600. */
    private static void gatesFor() {
        LagoonGates x = new LagoonGates();
        int[][] wrong = {{0, 0}, {151, 0}, {1, -401}, {1, 601}, {150, -401}, {150, 601}, {0, -401}};
        for (int[] row : wrong) {
            DUE.is("gatesFor(" + row[0] + ", " + row[1] + ")", x.gatesFor(row[0], row[1]), INVALID);
        }
        DUE.is("gatesFor(1, -400)", x.gatesFor(1, -400), 8);
        DUE.is("gatesFor(1, 600)", x.gatesFor(1, 600), 0);
        int[] ticks = {1, 2, 149, 150};
        for (int many : ticks) {
            for (int level = -400; level <= 600; level += 500) {
                gatesForIs(x, many, level);
            }
        }
        LagoonGates high = Lagoons.at(37);
        // Behind a tick, by gates from 0 on: 0, 6, 13, 20, 27, 34, 41, 48, 55.
        int[][] rows = {{-400, 0}, {0, 0}, {3, 0}, {4, 1}, {6, 1}, {51, 7}, {52, 8}, {55, 8}, {600, 8}};
        for (int[] row : rows) {
            DUE.is("gatesFor(1, " + row[0] + ") at 37", high.gatesFor(1, row[0]), row[1]);
        }
        LagoonGates last = Lagoons.at(9999);
        // The head is -165: 8 gates let 2640 out, and 37360 of water are a level of -27.
        DUE.is("gatesFor(1, -27) at 9999", last.gatesFor(1, -27), 8);
        DUE.is("gatesFor(1, 0) at 9999", last.gatesFor(1, 0), 0);
    }

    private static void gatesForIs(LagoonGates x, int ticks, int level) {
        int number = x.gatesFor(ticks, level);
        x.gates(number);
        int least = Math.abs(x.would(ticks, 0) - level);
        x.undo();
        for (int open = 0; open <= 8; open++) {
            x.gates(open);
            int miss = Math.abs(x.would(ticks, 0) - level);
            String call = "gatesFor(" + ticks + ", " + level + ") as against " + open;
            DUE.holds(call, open < number ? miss > least : miss >= least);
            x.undo();
        }
    }

    private static void gatesForOfSeveral() {
        LagoonGates x = new LagoonGates();
        x.gates(5);
        // Behind a tick, by gates from 0 on: 0, -7, -14, -21, -28, -34, -41, -48, -55.
        DUE.is("gatesFor(1, -30)", x.gatesFor(1, -30), 4);
        DUE.is("gatesFor(1, -31), as near by 4 as by 5", x.gatesFor(1, -31), 4);
        DUE.is("gatesFor(1, -32)", x.gatesFor(1, -32), 5);
        x.birds(0, 1);
        DUE.is("gatesFor(1, -31), all as near", x.gatesFor(1, -31), 0);
        DUE.now("the open gates stay", x, 8, 5);
        LagoonGates empty = Lagoons.empty();
        DUE.is("gatesFor(1, -400) at -400", empty.gatesFor(1, -400), 0);
        LagoonGates full = Lagoons.silted();
        full.pump(500);
        full.run(300);
        full.pump(0);
        DUE.now("full", full, 4, 600);
        DUE.is("gatesFor(150, 600) at 600", full.gatesFor(150, 600), 0);
        DUE.is("gatesFor(1, 599) at 600", full.gatesFor(1, 599), 0);
    }

    /** Promise 17: no record, one, the earliest of several, and one that is no longer there. */
    private static void bestDay() {
        LagoonGates x = new LagoonGates();
        DUE.is("bestDay() of none", x.bestDay(), NOT_FOUND);
        x.run(1);
        DUE.is("bestDay() of one", x.bestDay(), 0);
        x.undo();
        DUE.is("bestDay() behind undo()", x.bestDay(), NOT_FOUND);
        Lagoons.passTo(x, 1440);
        DUE.is("bestDay() of ten alike", x.bestDay(), 0);
        x.run(1);
        DUE.is("bestDay() of the next ten alike", x.bestDay(), 1);
        x.set(0, 1);
        x.turbines(1);
        x.run(1);
        x.turbines(0);
        DUE.is("bestDay() is the last", x.bestDay(), 10);
        Lagoons.passTo(x, 144 * 20);
        DUE.is("bestDay() is the first", x.bestDay(), 10);
        x.run(1);
        DUE.is("bestDay() is gone", x.bestDay(), 11);
    }

    /** Just as much on a later day; then 1 less, and 1 more. */
    private static void bestDayOfTwo() {
        int[][] rows = {{3, 3, 0}, {4, 3, 0}, {3, 4, 1}};
        for (int[] row : rows) {
            LagoonGates x = Lagoons.at(18);
            x.set(0, 1);
            // The head is -10, so that each turbine makes 1; the level is -1 behind it.
            x.turbines(row[0]);
            x.run(1);
            x.turbines(0);
            // At 203 the sea is at 9 and the head 10.
            Lagoons.passTo(x, 203);
            x.turbines(row[1]);
            x.run(1);
            DUE.is("made on day 0", x.record(0, 0), row[0]);
            DUE.is("made on day 1", x.record(1, 0), row[1]);
            DUE.is("bestDay() of " + row[0] + " and " + row[1], x.bestDay(), row[2]);
        }
    }

    /** Promise 18: none made, none used, as much as was made, more. */
    private static void share() {
        LagoonGates x = new LagoonGates();
        DUE.is("share() at first", x.share(), NOT_FOUND);
        x.set(1, 400);
        x.pump(500);
        x.run(1);
        DUE.is("share() of 1800 and 0", x.share(), NOT_FOUND);
        x.undo();
        x.pump(0);
        x.turbines(6);
        x.run(1);
        DUE.is("share() of 0 and 6936", x.share(), 0);
        x.undo();
        // 340 * 340 / 100 is 1156; 321 * 360 / 100 is 1155.6, 322 * 360 / 100 is 1159.2.
        x.turbines(1);
        x.pump(321);
        x.run(1);
        DUE.is("made", x.count(0), 1156);
        DUE.is("used", x.count(1), 1155);
        DUE.is("share() of 1155 and 1156", x.share(), Float.floatToIntBits(1155f / 1156f));
        x.undo();
        x.pump(322);
        x.run(1);
        DUE.is("share() of 1159 and 1156", x.share(), Float.floatToIntBits(1159f / 1156f));
        LagoonGates same = Lagoons.at(18);
        // The head is -10: a turbine makes 1, and the pump uses 30 / 100 of what flows through it.
        same.set(0, 1);
        same.turbines(1);
        same.pump(4);
        same.run(1);
        DUE.is("share() of 1 and 1", same.share(), 0x3f800000);
        int[][] shares = {{3, 0}, {7, 0x40000000}, {10, 0x40400000}, {14, 0x40800000}, {24, 0x40e00000}};
        for (int[] row : shares) {
            same.undo();
            same.pump(row[0]);
            same.run(1);
            DUE.is("share() of " + same.count(1) + " and 1", same.share(), row[1]);
        }
        same.undo();
        same.turbines(2);
        same.pump(4);
        same.run(1);
        DUE.is("share() of 1 and 2", same.share(), 0x3f000000);
    }

    /** Promise 19: what is 0 to 9 and 20 to 22. */
    private static void count() {
        LagoonGates x = new LagoonGates();
        int[] wrong = {-1, 10, 11, 19, 23};
        for (int what : wrong) {
            DUE.is("count(" + what + ")", x.count(what), INVALID);
        }
        for (int what = 0; what <= 9; what++) {
            DUE.is("count(" + what + ") at first", x.count(what), 0);
        }
        DUE.is("count(20)", x.count(20), 120);
        DUE.is("count(21)", x.count(21), 40);
        DUE.is("count(22)", x.count(22), 1500);
    }

    /** Each tick adds what next told of it, to what is so far and to the record of the day. */
    private static void countsOfManyTicks() {
        LagoonGates x = new LagoonGates();
        x.set(0, 50);
        x.set(1, 300);
        x.set(2, 300);
        x.gates(3);
        x.turbines(4);
        x.pump(-123);
        int[] sums = new int[7];
        for (int tick = 0; tick < 90; tick++) {
            int flow = x.next(3);
            int silt = x.next(6);
            sums[0] += x.next(4);
            sums[1] += x.next(5);
            sums[flow > 0 ? 2 : 3] += Math.abs(flow);
            sums[silt > 0 ? 5 : 6] += Math.abs(silt);
            x.run(1);
        }
        for (int what = 0; what <= 6; what++) {
            DUE.is("count(" + what + ") of 90 ticks", x.count(what), sums[what]);
            DUE.holds("count(" + what + ") is not 0", what == 4 || sums[what] > 0);
        }
        int[] record = {0, 1, 4, 5};
        for (int i = 0; i < record.length; i++) {
            DUE.is("record(0, " + record[i] + ") of 90 ticks", x.record(0, record[i]), sums[i]);
        }
    }

    /** Promise 20: none to restore; the number of those that are left. */
    private static void undo() {
        LagoonGates x = new LagoonGates();
        DUE.is("undo() of none", x.undo(), NOT_POSSIBLE);
        for (int many = 1; many <= 6; many++) {
            x.turbines(many);
        }
        for (int left = 3; left >= 0; left--) {
            DUE.is("undo() down to " + left, x.undo(), left);
            DUE.is("count(8)", x.count(8), left);
        }
        DUE.is("undo() of none", x.undo(), NOT_POSSIBLE);
        DUE.now("the oldest kept", x, 9, 2);
    }

    /** Promise 21: character is 32 to 126, and the text has at most 60. */
    private static void type() {
        LagoonGates x = new LagoonGates();
        DUE.is("type(31)", x.type(31), INVALID);
        DUE.is("type(127)", x.type(127), INVALID);
        DUE.is("length behind them", x.count(9), 0);
        for (int length = 1; length <= 60; length++) {
            DUE.is("type to " + length, x.type(length % 2 == 0 ? 32 : 126), length);
        }
        DUE.is("type(32) to 61", x.type(32), LIMIT);
        DUE.is("type(126) to 61", x.type(126), LIMIT);
        DUE.is("type(31) to 61", x.type(31), INVALID);
        DUE.is("type(127) to 61", x.type(127), INVALID);
        DUE.is("length behind them", x.count(9), 60);
        for (int character = 32; character <= 126; character++) {
            DUE.is("type(" + character + ")", new LagoonGates().type(character), 1);
        }
    }

    /** Promise 22: of no text, of one character, of a full one. */
    private static void clearText() {
        LagoonGates x = new LagoonGates();
        DUE.is("clearText() of 0", x.clearText(), 0);
        x.type(32);
        DUE.is("clearText() of 1", x.clearText(), 1);
        DUE.is("clearText() of 0 again", x.clearText(), 0);
        for (int length = 1; length <= 61; length++) {
            x.type('g');
        }
        DUE.is("clearText() of 60", x.clearText(), 60);
        DUE.is("length behind it", x.count(9), 0);
        DUE.is("type behind it", x.type('g'), 1);
    }

    /** Promise 23: what is 0 to 2; NOT_FOUND without a fault and without a text. */
    private static void fault() {
        String[] faultless = {"", "g0;", "r300;"};
        for (String orders : faultless) {
            LagoonGates x = new LagoonGates();
            Lagoons.type(x, orders);
            int[] due = {INVALID, NOT_FOUND, NOT_FOUND, NOT_FOUND, INVALID};
            for (int what = -1; what <= 3; what++) {
                DUE.is("fault(" + what + ") of " + orders, x.fault(what), due[what + 1]);
            }
        }
        LagoonGates y = new LagoonGates();
        Lagoons.type(y, "g1;x");
        int[] due = {INVALID, 3, 1, 0, INVALID};
        for (int what = -1; what <= 3; what++) {
            DUE.is("fault(" + what + ") of g1;x", y.fault(what), due[what + 1]);
        }
    }

    /** Promise 24: no orders, one, the most that a text has, and a fault in the last of them. */
    private static void play() {
        int[] some = {0, 1, 2, 19, 20};
        for (int many : some) {
            LagoonGates x = new LagoonGates();
            Lagoons.type(x, "r1;".repeat(many));
            DUE.is("play() of " + many, x.play(), many);
            DUE.now("behind " + many, x, 0, many);
            DUE.is("states behind " + many, x.count(8), 1);
            DUE.is("the text stays", x.count(9), many * 3);
            DUE.is("undo()", x.undo(), 0);
            DUE.now("behind undo()", x, 0, 0);
        }
        String[] faults = {"r0;", "g9;", "x1;", "r1"};
        for (String last : faults) {
            LagoonGates x = new LagoonGates();
            Lagoons.type(x, "r1;".repeat(19) + last);
            DUE.is("play() with " + last, x.play(), NOT_POSSIBLE);
            DUE.now("behind it", x, 0, 0);
            DUE.is("states behind it", x.count(8), 0);
        }
    }
}
