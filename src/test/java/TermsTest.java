/**
 * The section 'Terms' of the document: for each boundary that it names the last case that is still
 * right and the first that is not, worked out by hand.
 */
public final class TermsTest {
    private static final int INVALID = -1000000001;
    private static final int NOT_POSSIBLE = -1000000002;
    private static final int LIMIT = -1000000003;
    private static final int NOT_FOUND = -1000000004;

    private static final Due DUE = new Due("TermsTest");

    public static void main(String[] args) {
        sea();
        basin();
        tick();
        silt();
        hoursOfBirds();
        records();
        settings();
        texts();
        changes();
        errors();
        DUE.end();
    }

    // ---- Terms, and The sea

    private static void sea() {
        dayAndTickOfDay();
        heightByDayModulo14();
        phaseByTimeModulo74();
        phaseBelow37();
        seaIsRoundedDown();
        heightIsThatOfItsDay();
        seaAtEveryTime();
    }

    /** 144 ticks a day: the day is the time divided by 144, the tick of the day what is left over. */
    private static void dayAndTickOfDay() {
        int[][] rows = {{0, 0, 0}, {1, 0, 1}, {143, 0, 143}, {144, 1, 0}, {287, 1, 143}, {288, 2, 0}, {1439, 9, 143},
            {1440, 10, 0}, {2015, 13, 143}, {2016, 14, 0}, {9935, 68, 143}, {9936, 69, 0}, {9999, 69, 63}};
        for (int[] row : rows) {
            DUE.now("at " + row[0], Lagoons.at(row[0]), 0, row[0], 1, row[1], 2, row[2]);
        }
    }

    /** The days between (the day modulo 14) and 7, on both sides of 7 and where the 14 begin again. */
    private static void heightByDayModulo14() {
        int[][] rows = {{0, 340}, {1, 320}, {6, 220}, {7, 200}, {8, 220}, {12, 300}, {13, 320}, {14, 340}, {15, 320},
            {20, 220}, {21, 200}, {22, 220}, {27, 320}, {28, 340}, {55, 320}, {56, 340}, {63, 200}, {69, 320}};
        for (int[] row : rows) {
            DUE.now("first tick of day " + row[0], Lagoons.at(row[0] * 144), 12, row[1]);
            if (row[0] < 69) {
                DUE.now("last tick of day " + row[0], Lagoons.at(row[0] * 144 + 143), 12, row[1]);
            }
        }
    }

    private static void phaseByTimeModulo74() {
        // 680 * 36 / 37 is 661.6; on day 1, 640 * 36 / 37 is 622.7; 640 / 37 is 17.3.
        seaIs(0, -340);
        seaIs(73, -321);
        seaIs(74, -340);
        seaIs(75, -322);
        seaIs(147, -302);
        seaIs(148, -320);
        seaIs(149, -303);
        seaIs(9989, -302);
        seaIs(9990, -320);
        seaIs(9991, -303);
    }

    private static void phaseBelow37() {
        seaIs(36, 321);
        seaIs(37, 340);
        seaIs(38, 322);
        // On day 7 the phase is 36 at 1072; 400 * 36 / 37 is 389.2.
        seaIs(1072, 189);
        seaIs(1073, 200);
        seaIs(1074, 190);
    }

    /** The division is rounded down, not the level: up to 1 lower while it rises, up to 1 higher while it falls. */
    private static void seaIsRoundedDown() {
        // 680 * 18 / 37 is 330.8, 680 * 19 / 37 is 349.2.
        seaIs(18, -10);
        seaIs(19, 9);
        seaIs(55, 10);
        seaIs(56, -9);
    }

    private static void heightIsThatOfItsDay() {
        // At 143 the phase is 69: 680 * 32 / 37 is 588.1; at 144 it is 70: 640 * 33 / 37 is 570.8.
        seaIs(143, -248);
        seaIs(144, -250);
        // At 2015, on day 13, the phase is 17: 640 * 17 / 37 is 294.1; day 14 begins with 680 * 18 / 37.
        seaIs(2015, -26);
        seaIs(2016, -10);
    }

    private static void seaIs(int time, int due) {
        DUE.is("sea(" + time + ")", new LagoonGates().sea(time), due);
    }

    private static void seaAtEveryTime() {
        PlainLagoon plain = new PlainLagoon();
        int different = 0;
        LagoonGates x = new LagoonGates();
        for (int time = 0; time <= 9999; time++) {
            // An object is used for 512 calls only.
            x = time % 500 == 0 ? new LagoonGates() : x;
            different += x.sea(time) == plain.sea(time) ? 0 : 1;
        }
        DUE.is("times at which the sea is different", different, 0);
    }

    // ---- The basin

    private static void basin() {
        basinAtFirst();
        levelIsRoundedDown();
        levelCountsSilt();
        basinFullAndEmpty();
        headOfBothSigns();
        gatesAndTurbinesThereAre();
    }

    private static void basinAtFirst() {
        DUE.now("at first", new LagoonGates(), 4, 0, 6, 40000, 7, 0, 8, 0, 9, 0);
    }

    private static void levelIsRoundedDown() {
        DUE.now("water is 40000", Lagoons.at(1), 6, 40000, 4, 0);
        DUE.now("water is 39999", Lagoons.pumped(-1, 1, 1), 6, 39999, 4, -1);
        DUE.now("water is 39900", Lagoons.pumped(-100, 1, 1), 6, 39900, 4, -1);
        DUE.now("water is 39899", Lagoons.pumped(-101, 1, 1), 6, 39899, 4, -2);
    }

    private static void levelCountsSilt() {
        DUE.now("water 40098 and silt 1", Lagoons.pumped(98, 1, 1), 6, 40098, 7, 1, 4, 0);
        DUE.now("water 40099 and silt 1", Lagoons.pumped(99, 1, 1), 6, 40099, 7, 1, 4, 1);
    }

    private static void basinFullAndEmpty() {
        DUE.now("empty", Lagoons.empty(), 6, 0, 7, 0, 4, -400, 3, -300, 5, 100);
        DUE.now("full", Lagoons.full(), 6, 80000, 7, 800, 4, 408, 3, 300, 5, -108);
        LagoonGates both = Lagoons.silted();
        both.pump(500);
        both.run(300);
        DUE.now("full of water and silt", both, 6, 80000, 7, 20000, 4, 600);
    }

    private static void headOfBothSigns() {
        DUE.now("sea as high as the basin", Lagoons.pumped(-450, 2, 56), 3, -9, 4, -9, 5, 0);
        DUE.now("sea 1 above", Lagoons.pumped(-500, 2, 56), 3, -9, 4, -10, 5, 1);
        DUE.now("sea 1 below", Lagoons.pumped(-400, 2, 56), 3, -9, 4, -8, 5, -1);
    }

    private static void gatesAndTurbinesThereAre() {
        LagoonGates x = Lagoons.at(37);
        DUE.is("gates(9)", x.gates(9), INVALID);
        DUE.is("gates(8)", x.gates(8), 0);
        DUE.is("turbines(7)", x.turbines(7), INVALID);
        DUE.is("turbines(6)", x.turbines(6), 0);
        DUE.next("all open", x, 8 * 340 * 2, 6 * 340);
    }

    // ---- A tick

    private static void tick() {
        headAtGates();
        headAtLeastHead();
        headAtLeastHeadsEnds();
        headAtNear();
        headAtNearsEnds();
        energyIsRoundedDown();
        flowBringsWaterTo80000();
        flowBringsWaterTo0();
        flowsTogetherAreLimited();
        timeBecomesOneMore();
    }

    private static void headAtGates() {
        LagoonGates rising = Lagoons.at(37);
        rising.gates(3);
        DUE.is("gates, head 340", rising.next(0), 2040);
        LagoonGates first = new LagoonGates();
        first.gates(3);
        DUE.is("gates, head -340", first.next(0), -2040);
        int[][] rows = {{-450, 0}, {-500, 16}, {-400, -16}};
        for (int[] row : rows) {
            LagoonGates x = Lagoons.pumped(row[0], 2, 56);
            x.gates(8);
            DUE.is("gates, head " + row[1] / 16, x.next(0), row[1]);
        }
    }

    /** Turbines: the head, without its sign, is at least setting 0. */
    private static void headAtLeastHead() {
        LagoonGates[] both = {Lagoons.at(37), new LagoonGates()};
        for (LagoonGates x : both) {
            int head = x.now(5);
            x.turbines(6);
            x.set(0, 341);
            DUE.next("head " + head + ", least head 341", x, 0, 0, 0, 0, 0);
            x.set(0, 340);
            DUE.is("head " + head + ", least head 340, flow", x.next(1), 6 * head);
            DUE.is("head " + head + ", least head 340, made", x.next(4), 6936);
            x.set(0, 339);
            DUE.is("head " + head + ", least head 339, flow", x.next(1), 6 * head);
        }
    }

    private static void headAtLeastHeadsEnds() {
        int[][] least = {{-450, 0}, {-500, 6}, {-400, -6}};
        for (int[] row : least) {
            LagoonGates x = Lagoons.pumped(row[0], 2, 56);
            x.turbines(6);
            x.set(0, 1);
            DUE.is("least head 1, head " + row[1] / 6, x.next(1), row[1]);
            x.set(0, 2);
            DUE.is("least head 2, head " + row[1] / 6, x.next(1), 0);
        }
        // 34000 of water: a head of 400; 34120: one of 399.
        int[][] most = {{-500, 400, 2400, 9600}, {-490, 399, 0, 0}};
        for (int[] row : most) {
            LagoonGates x = Lagoons.pumped(row[0], 12, 37);
            x.turbines(6);
            x.set(0, 400);
            DUE.is("head", x.now(5), row[1]);
            DUE.is("least head 400, flow at " + row[1], x.next(1), row[2]);
            DUE.is("least head 400, made at " + row[1], x.next(4), row[3]);
        }
    }

    /** Pumps: the head, without its sign, is at most setting 1. */
    private static void headAtNear() {
        int[] times = {37, 0};
        for (int time : times) {
            LagoonGates x = Lagoons.at(time);
            int head = x.now(5);
            for (int pump = -7; pump <= 7; pump += 14) {
                x.pump(pump);
                x.set(1, 339);
                DUE.next("head " + head + ", near 339", x, 0, 0, 0, 0, 0, 0);
                x.set(1, 340);
                // 7 * (20 + 340) / 100 is 25.2
                DUE.next("head " + head + ", near 340", x, 0, 0, pump, pump, 0, 25);
                x.set(1, 341);
                DUE.next("head " + head + ", near 341", x, 0, 0, pump, pump, 0, 25);
            }
        }
    }

    private static void headAtNearsEnds() {
        int[][] least = {{-450, 500, 100}, {-500, 0, 0}, {-400, 0, 0}};
        for (int[] row : least) {
            LagoonGates x = Lagoons.pumped(row[0], 2, 56);
            x.pump(500);
            x.set(1, 0);
            DUE.is("near 0, flow at the head " + x.now(5), x.next(2), row[1]);
            DUE.is("near 0, used at the head " + x.now(5), x.next(5), row[2]);
            x.set(1, 1);
            DUE.is("near 1, flow at the head " + x.now(5), x.next(2), 500);
        }
        // 34000 of water: a head of 400, and 7 * 420 / 100 is 29.4; 33955: one of 401.
        LagoonGates last = Lagoons.pumped(-500, 12, 37);
        last.set(1, 400);
        last.pump(7);
        DUE.now("level -60 at the high sea", last, 5, 400);
        DUE.next("near 400, head 400", last, 0, 0, 7, 7, 0, 29);
        LagoonGates first = Lagoons.pumped(-465, 13, 37);
        first.set(1, 400);
        first.pump(7);
        DUE.now("level -61 at the high sea", first, 5, 401);
        DUE.next("near 400, head 401", first, 0, 0, 0, 0, 0, 0);
    }

    private static void energyIsRoundedDown() {
        LagoonGates nine = Lagoons.at(19);
        nine.set(0, 1);
        int[] made = {0, 0, 1, 2, 3, 4, 4};
        for (int many = 0; many <= 6; many++) {
            nine.turbines(many);
            // 9 * 9 / 100 for each of them: 0.81, 1.62, 2.43, 3.24, 4.05, 4.86.
            DUE.is("made at the head 9 by " + many, nine.next(4), made[many]);
        }
        LagoonGates ten = Lagoons.at(18);
        ten.set(0, 1);
        ten.turbines(1);
        DUE.is("made just 1, head -10", ten.next(4), 1);
        LagoonGates none = Lagoons.pumped(-450, 2, 56);
        int[][] used = {{0, 0}, {4, 0}, {5, 1}, {9, 1}, {10, 2}, {-4, 0}, {-5, 1}, {-9, 1}, {-10, 2}};
        for (int[] row : used) {
            none.pump(row[0]);
            DUE.is("used at the head 0 by " + row[0], none.next(5), row[1]);
        }
    }

    private static void flowBringsWaterTo80000() {
        LagoonGates x = Lagoons.full();
        x.pump(-400);
        x.run(1);
        DUE.now("room for 400", x, 6, 79600, 5, -120);
        x.pump(399);
        DUE.next("1 less than the room", x, 0, 0, 399, 399, 0, 558, 7);
        x.pump(400);
        DUE.next("just the room", x, 0, 0, 400, 400, 0, 560, 8);
        x.pump(401);
        DUE.next("1 more than the room", x, 0, 0, 401, 400, 0, 561, 8);
        int used = x.count(1);
        int before = x.record(2, 4);
        x.run(1);
        DUE.now("full again", x, 6, 80000, 7, 808);
        DUE.is("energy is used all the same", x.count(1) - used, 561);
        DUE.is("flowed in so far", x.count(2), 40400);
        DUE.is("flowed in on the day", x.record(2, 4) - before, 400);
        x.undo();
        x.pump(399);
        x.run(1);
        DUE.now("1 is missing", x, 6, 79999);
        x.run(1);
        DUE.now("1 flowed in", x, 6, 80000);
        DUE.next("full", x, 0, 0, 399, 0, 0);
        x.run(1);
        DUE.now("full stays full", x, 6, 80000);
    }

    private static void flowBringsWaterTo0() {
        LagoonGates x = Lagoons.empty();
        x.pump(400);
        x.run(1);
        DUE.now("400 of water", x, 6, 400, 7, 8, 4, -396, 5, 112);
        x.pump(-399);
        DUE.next("1 less than there is", x, 0, 0, -399, -399, 0, 526, 0);
        x.pump(-400);
        DUE.next("just what there is", x, 0, 0, -400, -400, 0, 528, 0);
        x.pump(-401);
        DUE.next("1 more than there is", x, 0, 0, -401, -400, 0, 529, 0);
        int used = x.count(1);
        int before = x.record(2, 5);
        x.run(1);
        DUE.now("empty again", x, 6, 0, 7, 8, 4, -400);
        DUE.is("energy is used all the same", x.count(1) - used, 529);
        DUE.is("flowed out so far", x.count(3), 40400);
        DUE.is("flowed out on the day", x.record(2, 5) - before, 400);
        x.undo();
        x.pump(-399);
        x.run(1);
        DUE.now("1 is left", x, 6, 1);
        x.run(1);
        DUE.now("1 flowed out", x, 6, 0);
        DUE.next("empty", x, 0, 0, -399, 0, 0);
        x.run(1);
        DUE.now("empty stays empty", x, 6, 0);
    }

    /** Not each flow is limited, but what flows in all together. */
    private static void flowsTogetherAreLimited() {
        LagoonGates full = Lagoons.full();
        full.pump(500);
        full.set(0, 108);
        full.turbines(1);
        // The head is -108: 108 * 108 / 100 is 116.6, and 500 * 128 / 100 is 640.
        DUE.next("full, turbines and pump", full, 0, -108, 500, 0, 116, 640, 0);
        full.gates(1);
        DUE.next("full, gates too", full, -216, -108, 500, 0, 116, 640, 0);
        full.gates(2);
        DUE.next("full, more goes than comes", full, -432, -108, 500, -40, 116, 640, 0);
        LagoonGates empty = Lagoons.empty();
        empty.pump(-500);
        empty.set(0, 100);
        empty.turbines(1);
        DUE.next("empty, turbines and pump", empty, 0, 100, -500, 0, 100, 600, 0);
        empty.gates(2);
        DUE.next("empty, just as much comes as goes", empty, 400, 100, -500, 0, 100, 600, 0);
        empty.gates(3);
        DUE.next("empty, more comes than goes", empty, 600, 100, -500, 200, 100, 600, 4);
    }

    private static void timeBecomesOneMore() {
        LagoonGates x = new LagoonGates();
        x.run(1);
        DUE.now("behind a tick", x, 0, 1);
        x.run(299);
        DUE.now("behind 300 ticks", x, 0, 300);
    }

    // ---- A tick, (4)

    private static void silt() {
        aFiftiethComes();
        siltAt20000();
        flowAtFlush();
        flowAtFlushsEnds();
        aTwentiethGoes();
        siltAllGone();
    }

    private static void aFiftiethComes() {
        int[][] rows = {{0, 0}, {1, 0}, {49, 0}, {50, 1}, {99, 1}, {100, 2}, {499, 9}, {500, 10}};
        for (int[] row : rows) {
            LagoonGates x = new LagoonGates();
            x.set(1, 400);
            x.pump(row[0]);
            DUE.is("silt of " + row[0], x.next(6), row[1]);
            x.run(1);
            DUE.now("silt of " + row[0], x, 7, row[1]);
            DUE.is("silt that came of " + row[0], x.count(5), row[1]);
        }
        // Silt is of what flows in fact: a full basin has room for 49, or for 50.
        for (int room = 49; room <= 50; room++) {
            LagoonGates x = Lagoons.full();
            x.pump(-room);
            x.run(1);
            x.pump(500);
            DUE.is("flow into the room " + room, x.next(3), room);
            DUE.is("silt of the room " + room, x.next(6), room - 49);
        }
    }

    private static void siltAt20000() {
        // Dredged, what would come of 500, silt behind it.
        int[][] rows = {{0, 0, 20000}, {1, 1, 20000}, {9, 9, 20000}, {10, 10, 20000}, {11, 10, 19999}};
        for (int[] row : rows) {
            LagoonGates x = Lagoons.silted();
            x.pump(500);
            DUE.is("silt that came", x.count(5), 20000);
            if (row[0] > 0) {
                x.dredge(row[0]);
            }
            DUE.is("silt comes, dredged " + row[0], x.next(6), row[1]);
            x.run(1);
            DUE.now("dredged " + row[0], x, 6, 36510, 7, row[2]);
            DUE.is("silt that came, dredged " + row[0], x.count(5), 20000 + row[1]);
        }
    }

    /** Below 0, and not above -setting 2. */
    private static void flowAtFlush() {
        LagoonGates x = Lagoons.silted();
        DUE.now("silted", x, 5, -46, 7, 20000);
        x.pump(-500);
        x.set(2, 501);
        DUE.next("flush 501", x, 0, 0, -500, -500, 0, 330, 0);
        x.set(2, 500);
        DUE.next("flush 500", x, 0, 0, -500, -500, 0, 330, -25);
        x.set(2, 499);
        DUE.next("flush 499", x, 0, 0, -500, -500, 0, 330, -25);
        // Gates, turbines and pump together: 736 and 276 and what is missing to 1500.
        x.gates(8);
        x.set(0, 1);
        x.turbines(6);
        x.set(2, 1500);
        x.pump(-487);
        DUE.next("flow -1499", x, -736, -276, -487, -1499, 126, 321, 0);
        x.pump(-488);
        DUE.next("flow -1500", x, -736, -276, -488, -1500, 126, 322, -75);
        x.pump(-489);
        DUE.next("flow -1501", x, -736, -276, -489, -1501, 126, 322, -75);
    }

    private static void flowAtFlushsEnds() {
        LagoonGates x = Lagoons.silted();
        x.set(2, 1);
        x.pump(0);
        DUE.is("flush 1, no flow", x.next(6), 0);
        x.pump(20);
        x.dredge(100);
        DUE.is("flush 1, flow 20", x.next(6), 0);
        x.pump(-20);
        DUE.is("flush 1, flow -20", x.next(6), -1);
        // All full at 3955, 3050 pumped out, and then a low sea of -340: a head of -909.
        LagoonGates y = Lagoons.silted();
        y.pump(500);
        Lagoons.passTo(y, 3955);
        DUE.now("full of water and silt", y, 4, 600);
        y.pump(-500);
        y.run(6);
        y.pump(-50);
        y.run(1);
        y.pump(0);
        Lagoons.passTo(y, 4070);
        DUE.now("a low sea", y, 3, -340, 4, 569, 5, -909, 7, 20000);
        y.gates(5);
        y.turbines(0);
        DUE.next("flush 9999, flow -9090", y, -9090, 0, 0, -9090, 0, 0, 0);
        y.turbines(1);
        DUE.next("flush 9999, flow -9999", y, -9090, -909, 0, -9999, 8262, 0, -499);
    }

    private static void aTwentiethGoes() {
        LagoonGates x = Lagoons.silted();
        x.set(2, 1);
        int[][] rows = {{-1, 0}, {-19, 0}, {-20, -1}, {-39, -1}, {-40, -2}, {-499, -24}, {-500, -25}};
        for (int[] row : rows) {
            x.pump(row[0]);
            DUE.is("silt that goes with " + row[0], x.next(6), row[1]);
        }
    }

    /** No more goes than there is: 25 would, with 500 of water. */
    private static void siltAllGone() {
        int[][] rows = {{0, 0, 0}, {1, -1, 0}, {24, -24, 0}, {25, -25, 0}, {26, -25, 1}};
        for (int[] row : rows) {
            LagoonGates x = Lagoons.silted();
            x.dredge(20000 - row[0]);
            x.set(2, 500);
            x.pump(-500);
            DUE.is("silt that goes of " + row[0], x.next(6), row[1]);
            x.run(1);
            DUE.now("flushed", x, 6, 35510, 7, row[2]);
            DUE.is("silt that went of " + row[0], x.count(6), -row[1]);
        }
    }

    // ---- A tick, hours of birds

    private static void hoursOfBirds() {
        int[][] rows = {{2, 4, 2}, {2, 3, 1}, {0, 1, 1}, {143, 144, 1}, {142, 143, 1}, {0, 144, 144}, {0, 143, 143},
            {1, 144, 143}, {5, 5, 0}, {6, 5, 0}, {0, 0, 0}, {143, 143, 0}, {143, 0, 0}};
        for (int[] row : rows) {
            hoursFromUpTo(row[0], row[1], row[2]);
        }
        noHoursAtFirst();
        gatesAndPumpInHours();
        runAcrossHours();
    }

    private static void hoursFromUpTo(int from, int to, int many) {
        String call = "birds(" + from + ", " + to + ")";
        LagoonGates x = new LagoonGates();
        DUE.is(call, x.birds(from, to), many);
        for (int tick = 0; tick <= 144; tick++) {
            boolean due = from <= tick % 144 && tick % 144 < to;
            DUE.is("now(11) at " + tick + " with " + call, x.now(11), due ? 1 : 0);
            x.run(1);
        }
    }

    private static void noHoursAtFirst() {
        LagoonGates x = new LagoonGates();
        x.gates(1);
        DUE.now("no hour of birds at first", x, 11, 0);
        DUE.is("gates work at first", x.next(0), -680);
    }

    private static void gatesAndPumpInHours() {
        LagoonGates x = new LagoonGates();
        x.gates(1);
        x.turbines(1);
        x.pump(-50);
        x.set(1, 400);
        x.birds(1, 2);
        DUE.next("the tick before", x, -680, -340, -50, -1070, 1156, 180);
        x.run(1);
        // 38930 of water are a level of -11, the head is -311.
        DUE.next("the hour of birds", x, 0, -311, 0, -311, 967, 0);
        x.run(1);
        // 38619 of water are a level of -14, the head is -290.
        DUE.next("the tick behind", x, -580, -290, -50, -920, 841, 155);
    }

    private static void runAcrossHours() {
        LagoonGates x = new LagoonGates();
        x.gates(1);
        x.birds(2, 4);
        // 680 and 630 flow out, then at the head -253 of the fifth tick 506.
        x.run(2);
        DUE.now("before the hours", x, 6, 38690);
        x.run(2);
        DUE.now("behind the hours", x, 6, 38690);
        x.run(1);
        DUE.now("the tick behind them", x, 6, 38184);
        x.undo();
        x.undo();
        x.undo();
        x.run(5);
        DUE.now("all at once", x, 6, 38184);
    }

    // ---- Records

    private static void records() {
        noRecordAtFirst();
        dayOfTheFirstTick();
        tickBelongsToTheDayInWhichItBegan();
        levelsAtTheEndsOfTicks();
        latestTenDays();
        eleventhTakesThePlaceOfTheFirst();
        recordsBehindTheLastTick();
        recordsOfOneRun();
    }

    private static void noRecordAtFirst() {
        LagoonGates x = new LagoonGates();
        recordsAre(x, 0, -1);
        DUE.is("bestDay() without a record", x.bestDay(), NOT_FOUND);
        x.gates(1);
        recordsAre(x, 0, -1);
    }

    /** There are records from a day up to another one, and no others; none if the latter is below the former. */
    private static void recordsAre(LagoonGates x, int first, int last) {
        String when = " at " + x.now(0);
        DUE.is("count(7)" + when, x.count(7), last - first + 1);
        for (int day = Math.max(0, first - 2); day <= last + 2; day++) {
            boolean there = day >= first && day <= last;
            for (int what = 0; what < 6; what++) {
                boolean answered = x.record(day, what) != NOT_FOUND;
                DUE.holds("record(" + day + ", " + what + ")" + when, answered == there);
            }
        }
    }

    private static void dayOfTheFirstTick() {
        recordsAre(Lagoons.at(1), 0, 0);
        recordsAre(Lagoons.at(143), 0, 0);
        recordsAre(Lagoons.at(144), 0, 0);
        recordsAre(Lagoons.at(145), 0, 1);
        recordsAre(Lagoons.at(288), 0, 1);
        recordsAre(Lagoons.at(289), 0, 2);
    }

    private static void recordIs(LagoonGates x, int day, int... due) {
        for (int what = 0; what < due.length; what++) {
            DUE.is("record(" + day + ", " + what + ") at " + x.now(0), x.record(day, what), due[what]);
        }
    }

    private static void tickBelongsToTheDayInWhichItBegan() {
        LagoonGates x = Lagoons.at(143);
        x.gates(1);
        x.turbines(1);
        x.set(1, 400);
        x.pump(-4);
        // The head is -248: 496 by a gate, 248 by a turbine, 4 by the pump; 248 * 248 / 100 is 615.04.
        x.run(1);
        recordIs(x, 0, 615, 10, 0, -8, 0, 748);
        recordIs(x, 1, NOT_FOUND, NOT_FOUND, NOT_FOUND, NOT_FOUND, NOT_FOUND, NOT_FOUND);
        x.gates(0);
        x.turbines(0);
        x.pump(0);
        x.run(1);
        recordIs(x, 0, 615, 10, 0, -8, 0, 748);
        recordIs(x, 1, 0, 0, -8, -8, 0, 0);
    }

    private static void levelsAtTheEndsOfTicks() {
        LagoonGates x = new LagoonGates();
        x.gates(1);
        x.run(1);
        // The level 0 before the tick is at no end of one.
        recordIs(x, 0, 0, 0, -7, -7, 0, 680);
        x.run(1);
        recordIs(x, 0, 0, 0, -7, -14, 0, 1310);
        LagoonGates up = Lagoons.at(37);
        up.gates(1);
        up.run(1);
        // 680 flow in, and 13 of silt.
        recordIs(up, 0, 0, 0, 6, 0, 680, 0);
    }

    private static void latestTenDays() {
        recordsAre(Lagoons.at(1296), 0, 8);
        recordsAre(Lagoons.at(1297), 0, 9);
        recordsAre(Lagoons.at(1440), 0, 9);
        recordsAre(Lagoons.at(1441), 1, 10);
        recordsAre(Lagoons.at(1584), 1, 10);
        recordsAre(Lagoons.at(1585), 2, 11);
        recordsAre(Lagoons.at(2880), 10, 19);
        recordsAre(Lagoons.at(2881), 11, 20);
    }

    private static void eleventhTakesThePlaceOfTheFirst() {
        LagoonGates x = new LagoonGates();
        x.set(1, 400);
        // Out and in and out again, at the heads -340, -317, -294; -270, -257, -244, -230; -217.
        int[][] pumps = {{-500, 3}, {500, 4}, {-500, 1}};
        for (int[] pump : pumps) {
            x.pump(pump[0]);
            x.run(pump[1]);
        }
        x.pump(0);
        Lagoons.passTo(x, 1440);
        recordIs(x, 0, 0, 11645, 5, -15, 2000, 2000);
        recordIs(x, 9, 0, 0, 0, 0, 0, 0);
        recordIs(x, 10, NOT_FOUND);
        x.run(1);
        recordIs(x, 0, NOT_FOUND, NOT_FOUND, NOT_FOUND, NOT_FOUND, NOT_FOUND, NOT_FOUND);
        recordIs(x, 1, 0, 0, 0, 0, 0, 0);
        // None of the numbers of day 0 stays in its place.
        recordIs(x, 10, 0, 0, 0, 0, 0, 0);
        x.undo();
        recordIs(x, 0, 0, 11645, 5, -15, 2000, 2000);
        recordIs(x, 10, NOT_FOUND);
        DUE.is("count(7) behind undo", x.count(7), 10);
    }

    private static void recordsBehindTheLastTick() {
        LagoonGates x = Lagoons.at(9999);
        recordsAre(x, 60, 69);
        DUE.is("record of day 2147483647", x.record(2147483647, 0), NOT_FOUND);
        DUE.is("record of day 0", x.record(0, 0), NOT_FOUND);
    }

    private static void recordsOfOneRun() {
        LagoonGates once = Lagoons.at(1400);
        LagoonGates often = Lagoons.at(1400);
        once.gates(2);
        often.gates(2);
        once.run(300);
        for (int tick = 0; tick < 300; tick++) {
            often.run(1);
        }
        for (int day = 1; day <= 12; day++) {
            for (int what = 0; what < 6; what++) {
                DUE.is("record(" + day + ", " + what + ") of one run", once.record(day, what), often.record(day, what));
            }
        }
    }

    // ---- Settings

    private static void settings() {
        int[][] rows = {{0, 1, 400, 120}, {1, 0, 400, 40}, {2, 1, 9999, 1500}};
        for (int[] row : rows) {
            int what = row[0];
            LagoonGates x = new LagoonGates();
            DUE.is("first value of " + what, x.count(20 + what), row[3]);
            DUE.is("below the least of " + what, x.set(what, row[1] - 1), INVALID);
            DUE.is("behind it", x.count(20 + what), row[3]);
            DUE.is("above the most of " + what, x.set(what, row[2] + 1), INVALID);
            DUE.is("behind it", x.count(20 + what), row[3]);
            DUE.is("the least of " + what, x.set(what, row[1]), row[3]);
            DUE.is("behind it", x.count(20 + what), row[1]);
            DUE.is("the most of " + what, x.set(what, row[2]), row[1]);
            DUE.is("behind it", x.count(20 + what), row[2]);
        }
    }

    // ---- Texts

    private static void texts() {
        emptyText();
        textOf60();
        numbersOf1To3Digits();
        zerosAhead();
        wrongCharacters();
        ordersThatTheTextEndsTooEarly();
        endsOfEachOrder();
        ticksUpToTheLastTime();
        ordersAheadAreDone();
        placeOfTheFirstFault();
    }

    private static void faultIs(LagoonGates x, String orders, int place, int reason, int cause) {
        Lagoons.type(x, orders);
        DUE.is("fault(0) of " + orders, x.fault(0), place);
        DUE.is("fault(1) of " + orders, x.fault(1), reason);
        DUE.is("fault(2) of " + orders, x.fault(2), cause);
        DUE.is("play() of " + orders, x.play(), NOT_POSSIBLE);
    }

    private static void noFault(LagoonGates x, String orders, int many) {
        Lagoons.type(x, orders);
        for (int what = 0; what <= 2; what++) {
            DUE.is("fault(" + what + ") of " + orders, x.fault(what), NOT_FOUND);
        }
        DUE.is("play() of " + orders, x.play(), many);
    }

    private static void formFault(String order, int breaksOff) {
        faultIs(new LagoonGates(), order, 0, 1, breaksOff);
        faultIs(new LagoonGates(), "t1;" + order, 3, 1, breaksOff);
    }

    private static void emptyText() {
        LagoonGates x = new LagoonGates();
        DUE.is("length at first", x.count(9), 0);
        noFault(x, "", 0);
        DUE.is("play() of no orders is a change", x.count(8), 1);
        Lagoons.type(x, "g1");
        DUE.is("clearText()", x.clearText(), 2);
        noFault(x, "", 0);
        DUE.now("nothing is done", x, 8, 0);
    }

    private static void textOf60() {
        LagoonGates x = new LagoonGates();
        String most = "g1;".repeat(19) + "g2;";
        Lagoons.type(x, most.substring(0, 59));
        DUE.is("length", x.count(9), 59);
        DUE.is("type to 60", x.type(';'), 60);
        DUE.is("type to 61", x.type('x'), LIMIT);
        DUE.is("length behind it", x.count(9), 60);
        DUE.is("fault of 60", x.fault(0), NOT_FOUND);
        DUE.is("play() of 60", x.play(), 20);
        DUE.now("behind 60", x, 8, 2);
        faultIs(x, "g1;".repeat(19) + "g01", 57, 1, 3);
        faultIs(x, "g1;".repeat(19) + "g9;", 57, 2, INVALID);
        faultIs(x, "g".repeat(60), 0, 1, 1);
        faultIs(x, "g1;".repeat(18) + "b1,144", 54, 1, 6);
        // A 61st character would make it an order.
        DUE.is("type to 61 again", x.type(';'), LIMIT);
        DUE.is("fault behind it", x.fault(2), 6);
        noFault(x, "r1;".repeat(20), 20);
        DUE.now("behind 20 ticks", x, 0, 20);
    }

    private static void numbersOf1To3Digits() {
        noFault(new LagoonGates(), "g1;r12;r123;p5;p55;p155;b1,2;b12,34;b123,134;", 9);
        formFault("g;", 1);
        formFault("g1234;", 4);
        formFault("r1000;", 4);
        formFault("b,5;", 1);
        formFault("b5,;", 3);
        formFault("b1234,5;", 4);
        formFault("b1,2345;", 6);
        formFault("b001,0020;", 8);
    }

    private static void zerosAhead() {
        LagoonGates x = new LagoonGates();
        noFault(x, "g08;t006;p050;b000,003;", 4);
        DUE.now("zeros ahead", x, 8, 8, 9, 6, 10, 50, 11, 1);
        noFault(x, "g000;t00;p0;q000;r001;", 5);
        DUE.now("zeros alone", x, 8, 0, 9, 0, 10, 0, 0, 1);
        formFault("g0008;", 4);
        formFault("b0,0003;", 6);
    }

    private static void wrongCharacters() {
        String wrongKinds = " ;,0aBcdefGhijklmnosTuvwxyz~";
        for (int i = 0; i < wrongKinds.length(); i++) {
            formFault(wrongKinds.charAt(i) + "1;", 0);
        }
        // The signs just below "0" and just above "9", and others, in the place of a digit, "," or ";".
        String wrongSigns = "/: -+.g~";
        for (int i = 0; i < wrongSigns.length(); i++) {
            char sign = wrongSigns.charAt(i);
            formFault("g" + sign + ";", 1);
            formFault("g1" + sign + ";", 2);
            formFault("g12" + sign + ";", 3);
            formFault("g123" + sign, 4);
            formFault("b1" + sign + "2;", 2);
            formFault("b1," + sign + ";", 3);
            formFault("b1,2" + sign + ";", 4);
        }
        formFault("g1,2;", 2);
        formFault("b1;2;", 2);
        formFault("b1;", 2);
        formFault("b1,2,3;", 4);
    }

    private static void ordersThatTheTextEndsTooEarly() {
        String[] whole = {"g8", "t06", "p500", "q5", "r300", "b143,144", "b0,1"};
        for (String order : whole) {
            for (int length = 1; length <= order.length(); length++) {
                formFault(order.substring(0, length), length);
            }
            noFault(new LagoonGates(), order + ";", 1);
        }
        // What a longer text left behind the end of a shorter one is no part of it.
        LagoonGates x = new LagoonGates();
        Lagoons.type(x, "g8;");
        faultIs(x, "g", 0, 1, 1);
        faultIs(x, "g8", 0, 1, 2);
    }

    private static void endsOfEachOrder() {
        String[] right = {"g0;", "g8;", "t0;", "t6;", "p0;", "p500;", "q0;", "q500;", "b0,0;", "b143,144;", "r1;", "r300;"};
        String[] wrong = {"g9;", "g999;", "t7;", "t999;", "p501;", "p999;", "q501;", "q999;", "b144,144;", "b143,145;",
            "b0,145;", "b999,0;", "r0;", "r301;", "r999;"};
        for (String order : right) {
            noFault(new LagoonGates(), order, 1);
        }
        for (String order : wrong) {
            faultIs(new LagoonGates(), order, 0, 2, INVALID);
            faultIs(new LagoonGates(), "t1;" + order + "t2;", 3, 2, INVALID);
        }
        LagoonGates x = new LagoonGates();
        noFault(x, "g8;t6;p500;b0,1;", 4);
        DUE.now("gates, turbines, a pump into the basin, birds", x, 8, 8, 9, 6, 10, 500, 11, 1);
        noFault(x, "q500;b1,0;r1;", 3);
        DUE.now("a pump out of the basin, no birds, a tick", x, 10, -500, 11, 0, 0, 1);
    }

    private static void ticksUpToTheLastTime() {
        noFault(Lagoons.at(9700), "r299;", 1);
        faultIs(Lagoons.at(9700), "r300;", 0, 2, LIMIT);
        faultIs(Lagoons.at(9700), "r301;", 0, 2, INVALID);
        faultIs(Lagoons.at(9700), "g1;r299;r1;", 8, 2, LIMIT);
        faultIs(Lagoons.at(9999), "r1;", 0, 2, LIMIT);
        faultIs(Lagoons.at(9999), "r0;", 0, 2, INVALID);
        noFault(Lagoons.at(9999), "g1;", 1);
    }

    /** A reason 2 is told of the state behind the orders ahead, which the fault itself does not do. */
    private static void ordersAheadAreDone() {
        LagoonGates x = Lagoons.at(9500);
        faultIs(x, "r200;r200;r99;r1;", 14, 2, LIMIT);
        faultIs(x, "r300;g2;r199;r1;g3;", 13, 2, LIMIT);
        DUE.now("behind two faults", x, 0, 9500, 8, 0);
        noFault(x, "r200;r200;r99;", 3);
        DUE.now("behind all orders", x, 0, 9999);
    }

    private static void placeOfTheFirstFault() {
        LagoonGates x = new LagoonGates();
        faultIs(x, "x", 0, 1, 0);
        faultIs(x, "g1;x;g9;", 3, 1, 0);
        faultIs(x, "g1;g9;x;", 3, 2, INVALID);
        faultIs(x, "g9;g1;g9;", 0, 2, INVALID);
        faultIs(x, "g9", 0, 1, 2);
        faultIs(x, "g1;;", 3, 1, 0);
        faultIs(x, "g1; g2;", 3, 1, 0);
        faultIs(x, "b143,144;g8x", 9, 1, 2);
    }

    // ---- Changes and errors

    private static void changes() {
        changesAreRecorded();
        otherCallsAreNotRecorded();
        emptyHistory();
        fullHistory();
        fifthStateDropsTheOldest();
        historyGoesRound();
        lastOf512Calls();
        undoRestoresAllButTheText();
    }

    private static int change(LagoonGates x, int which) {
        switch (which) {
            case 0:
                return x.gates(0);
            case 1:
                return x.turbines(0);
            case 2:
                return x.pump(0);
            case 3:
                return x.birds(0, 0);
            case 4:
                return x.run(1);
            case 5:
                return x.dredge(1);
            case 6:
                return x.set(1, 400);
            default:
                return x.play();
        }
    }

    /** Each of the eight changes is one, also if all is as before. */
    private static void changesAreRecorded() {
        for (int which = 0; which < 8; which++) {
            LagoonGates x = Lagoons.silted();
            Lagoons.type(x, "g0;t0;");
            x.undo();
            DUE.is("states before the change " + which, x.count(8), 3);
            DUE.holds("answer of the change " + which, change(x, which) > INVALID);
            DUE.is("states behind the change " + which, x.count(8), 4);
            DUE.is("undo() of the change " + which, x.undo(), 3);
        }
    }

    private static void otherCallsAreNotRecorded() {
        LagoonGates x = new LagoonGates();
        x.run(1);
        x.sea(0);
        x.now(0);
        x.record(0, 0);
        x.next(0);
        x.would(10, 0);
        x.seaAt(0);
        x.best(10, 0);
        x.gatesFor(10, 0);
        x.bestDay();
        x.share();
        x.count(0);
        x.type('g');
        x.fault(0);
        x.clearText();
        DUE.is("states behind questions and texts", x.count(8), 1);
        DUE.is("undo()", x.undo(), 0);
        DUE.is("states behind undo()", x.count(8), 0);
    }

    private static void emptyHistory() {
        LagoonGates x = new LagoonGates();
        DUE.is("states at first", x.count(8), 0);
        DUE.is("undo() at first", x.undo(), NOT_POSSIBLE);
        x.gates(1);
        DUE.is("undo() of the only change", x.undo(), 0);
        DUE.is("undo() of no change", x.undo(), NOT_POSSIBLE);
        DUE.now("behind it", x, 8, 0);
        x.gates(2);
        DUE.is("states behind a change", x.count(8), 1);
    }

    private static void fullHistory() {
        LagoonGates x = new LagoonGates();
        for (int many = 1; many <= 4; many++) {
            x.gates(many);
            DUE.is("states behind " + many, x.count(8), many);
        }
        for (int left = 3; left >= 0; left--) {
            DUE.is("undo() down to " + left, x.undo(), left);
            DUE.now("left are " + left, x, 8, left);
        }
        DUE.is("undo() of none", x.undo(), NOT_POSSIBLE);
    }

    private static void fifthStateDropsTheOldest() {
        LagoonGates x = new LagoonGates();
        for (int many = 1; many <= 5; many++) {
            x.gates(many);
        }
        DUE.is("states behind 5", x.count(8), 4);
        for (int left = 3; left >= 0; left--) {
            DUE.is("undo() down to " + left, x.undo(), left);
            DUE.now("left are " + left, x, 8, left + 1);
        }
        DUE.is("undo() to the dropped one", x.undo(), NOT_POSSIBLE);
        DUE.now("the oldest that is left", x, 8, 1);
    }

    private static void historyGoesRound() {
        for (int many = 6; many <= 14; many++) {
            LagoonGates x = new LagoonGates();
            for (int i = 1; i <= many; i++) {
                x.pump(i);
            }
            x.undo();
            x.undo();
            x.pump(-1);
            DUE.is("states behind " + many, x.count(8), 3);
            int[] pumps = {many - 2, many - 3, many - 4};
            for (int pump : pumps) {
                x.undo();
                DUE.now("undone of " + many, x, 10, pump);
            }
            DUE.is("undo() of none behind " + many, x.undo(), NOT_POSSIBLE);
        }
    }

    /** An object is used for 512 calls: the last of them is answered like any. */
    private static void lastOf512Calls() {
        LagoonGates x = new LagoonGates();
        for (int call = 1; call <= 511; call++) {
            int due = call == 1 ? 0 : (call - 1) % 9;
            DUE.is("gates(..), call " + call, x.gates(call % 9), due);
        }
        DUE.is("gates(8), call 512", x.gates(8), 511 % 9);
    }

    private static void undoRestoresAllButTheText() {
        for (int which = 0; which < 2; which++) {
            LagoonGates x = Lagoons.silted();
            int[] before = seen(x);
            Lagoons.type(x, "g8;t6;p500;b0,144;r300;");
            if (which == 0) {
                x.play();
            } else {
                x.gates(8);
                x.dredge(20000);
                x.set(0, 1);
                x.run(300);
                x.undo();
                x.undo();
                x.undo();
            }
            x.undo();
            int[] behind = seen(x);
            for (int i = 0; i < before.length; i++) {
                DUE.is("number " + i + " behind undo()", behind[i], before[i]);
            }
            DUE.is("the text stays", x.count(9), 23);
            DUE.is("the text can be played", x.play(), 5);
        }
    }

    private static int[] seen(LagoonGates x) {
        int[] seen = new int[13 + 8 + 3 + 7 + 60];
        int at = 0;
        for (int what = 0; what <= 12; what++) {
            seen[at++] = x.now(what);
        }
        for (int what = 0; what <= 7; what++) {
            seen[at++] = x.count(what);
        }
        for (int what = 20; what <= 22; what++) {
            seen[at++] = x.count(what);
        }
        for (int what = 0; what <= 6; what++) {
            seen[at++] = x.next(what);
        }
        for (int day = 15; day <= 24; day++) {
            for (int what = 0; what <= 5; what++) {
                seen[at++] = x.record(day, what);
            }
        }
        return seen;
    }

    /** Several errors at once: INVALID_ARGUMENT rather than any other. */
    private static void errors() {
        LagoonGates x = Lagoons.at(9999);
        DUE.is("run(1) at 9999", x.run(1), LIMIT);
        DUE.is("run(0) at 9999", x.run(0), INVALID);
        DUE.is("run(301) at 9999", x.run(301), INVALID);
        LagoonGates y = new LagoonGates();
        DUE.is("dredge(20000) of none", y.dredge(20000), NOT_POSSIBLE);
        DUE.is("dredge(20001) of none", y.dredge(20001), INVALID);
        DUE.is("dredge(0) of none", y.dredge(0), INVALID);
        DUE.is("record(0, 5) of none", y.record(0, 5), NOT_FOUND);
        DUE.is("record(0, 6) of none", y.record(0, 6), INVALID);
        DUE.is("record(0, -1) of none", y.record(0, -1), INVALID);
        DUE.is("record(-1, 0) of none", y.record(-1, 0), INVALID);
        DUE.is("seaAt(400), never", y.seaAt(400), NOT_FOUND);
        DUE.is("seaAt(401), never", y.seaAt(401), INVALID);
        DUE.is("fault(2) of none", y.fault(2), NOT_FOUND);
        DUE.is("fault(3) of none", y.fault(3), INVALID);
        DUE.is("fault(-1) of none", y.fault(-1), INVALID);
        Lagoons.type(y, "x".repeat(60));
        DUE.is("type(126) at 60", y.type(126), LIMIT);
        DUE.is("type(127) at 60", y.type(127), INVALID);
        DUE.is("type(31) at 60", y.type(31), INVALID);
        DUE.is("nothing is recorded", x.count(8) * 10 + y.count(8), 40);
    }
}
