/** Each promise of the document with answers worked out by hand: ordinary, at the edges, and wrong. */
public final class PromisesTest {
    private static final int INVALID = -1000000001;
    private static final int NOT_POSSIBLE = -1000000002;
    private static final int LIMIT = -1000000003;
    private static final int NOT_FOUND = -1000000004;
    private static final int[] FAR = {Integer.MIN_VALUE, Integer.MIN_VALUE + 1, -1000000001, 1000000000,
        Integer.MAX_VALUE};

    private static final Due DUE = new Due("PromisesTest");

    public static void main(String[] args) {
        promise1NewObject();
        promise2Gates();
        promise3Turbines();
        promise4Pump();
        promise5Birds();
        promise6Run();
        promise6Capacity();
        promise6Silt();
        promise7Dredge();
        promise8Set();
        promise9Sea();
        promise10Now();
        promise11Record();
        promise12Next();
        promise13Would();
        promise14SeaAt();
        promise15Best();
        promise15BestOfFew();
        promise16GatesFor();
        promise17BestDay();
        promise18Share();
        promise19Count();
        promise20Undo();
        promise21Type();
        promise22ClearText();
        promise23FaultOfForm();
        promise23FaultOfState();
        promise24Play();
        changesStartFromThePresent();
        farArguments();
        DUE.end();
    }

    private static void promise1NewObject() {
        LagoonGates x = new LagoonGates();
        int[] now = {0, 0, 0, -340, 0, -340, 40000, 0, 0, 0, 0, 0, 340};
        for (int what = 0; what < now.length; what++) {
            DUE.is("new now(" + what + ")", x.now(what), now[what]);
        }
        for (int what = 0; what <= 9; what++) {
            DUE.is("new count(" + what + ")", x.count(what), 0);
        }
        DUE.is("new count(20)", x.count(20), 120);
        DUE.is("new count(21)", x.count(21), 40);
        DUE.is("new count(22)", x.count(22), 1500);
        LagoonGates other = new LagoonGates();
        other.gates(5);
        DUE.is("gates of another object", x.now(8), 0);
    }

    private static void promise2Gates() {
        LagoonGates x = new LagoonGates();
        DUE.is("gates(-1)", x.gates(-1), INVALID);
        DUE.is("gates(9)", x.gates(9), INVALID);
        DUE.is("history behind errors of gates", x.count(8), 0);
        DUE.is("gates(8)", x.gates(8), 0);
        DUE.is("gates(3)", x.gates(3), 8);
        DUE.is("gates(9) again", x.gates(9), INVALID);
        DUE.is("now(8)", x.now(8), 3);
        DUE.is("gates(0)", x.gates(0), 3);
        DUE.is("history behind gates", x.count(8), 3);
    }

    private static void promise3Turbines() {
        LagoonGates x = new LagoonGates();
        DUE.is("turbines(-1)", x.turbines(-1), INVALID);
        DUE.is("turbines(7)", x.turbines(7), INVALID);
        DUE.is("history behind errors of turbines", x.count(8), 0);
        DUE.is("turbines(6)", x.turbines(6), 0);
        DUE.is("turbines(2)", x.turbines(2), 6);
        DUE.is("now(9)", x.now(9), 2);
        DUE.is("turbines(0)", x.turbines(0), 2);
        DUE.is("history behind turbines", x.count(8), 3);
    }

    private static void promise4Pump() {
        LagoonGates x = new LagoonGates();
        DUE.is("pump(-501)", x.pump(-501), INVALID);
        DUE.is("pump(501)", x.pump(501), INVALID);
        DUE.is("history behind errors of pump", x.count(8), 0);
        DUE.is("pump(-500)", x.pump(-500), 0);
        DUE.is("now(10)", x.now(10), -500);
        DUE.is("pump(500)", x.pump(500), -500);
        DUE.is("pump(0)", x.pump(0), 500);
        DUE.is("history behind pump", x.count(8), 3);
    }

    private static void promise5Birds() {
        LagoonGates x = new LagoonGates();
        DUE.is("birds(-1, 5)", x.birds(-1, 5), INVALID);
        DUE.is("birds(144, 144)", x.birds(144, 144), INVALID);
        DUE.is("birds(5, -1)", x.birds(5, -1), INVALID);
        DUE.is("birds(5, 145)", x.birds(5, 145), INVALID);
        DUE.is("history behind errors of birds", x.count(8), 0);
        DUE.is("birds(0, 144)", x.birds(0, 144), 144);
        DUE.is("now(11) all day", x.now(11), 1);
        DUE.is("birds(143, 144)", x.birds(143, 144), 1);
        DUE.is("birds(143, 0)", x.birds(143, 0), 0);
        DUE.is("birds(7, 7)", x.birds(7, 7), 0);
        DUE.is("history behind birds", x.count(8), 4);

        x.birds(2, 4);
        int[] hours = {0, 0, 1, 1, 0};
        for (int tick = 0; tick < hours.length; tick++) {
            DUE.is("hour of birds at tick " + tick, x.now(11), hours[tick]);
            x.run(1);
        }
        Lagoons.passTo(x, 144 + 3);
        DUE.is("hour of birds on the next day", x.now(11), 1);
        x.birds(4, 2);
        DUE.is("hour of birds if the former is above", x.now(11), 0);
    }

    private static void promise6Run() {
        LagoonGates x = new LagoonGates();
        DUE.is("run(0)", x.run(0), INVALID);
        DUE.is("run(-1)", x.run(-1), INVALID);
        DUE.is("run(301)", x.run(301), INVALID);
        DUE.is("history behind errors of run", x.count(8), 0);
        x.gates(4);
        x.turbines(6);
        // 4 gates: -2720; 6 turbines: -2040, which make 2040 * 340 / 100.
        DUE.is("run(1)", x.run(1), -48);
        DUE.is("history behind run", x.count(8), 3);
        DUE.is("time", x.now(0), 1);
        DUE.is("water", x.now(6), 35240);
        DUE.is("made", x.count(0), 6936);
        DUE.is("flowed out", x.count(3), 4760);

        LagoonGates once = new LagoonGates();
        LagoonGates often = new LagoonGates();
        once.gates(3);
        often.gates(3);
        int level = once.run(200);
        for (int tick = 0; tick < 199; tick++) {
            often.run(1);
        }
        DUE.is("run(200) as against 200 of run(1)", often.run(1), level);
        DUE.is("run answers the level", once.now(4), level);

        LagoonGates late = Lagoons.at(9900);
        DUE.is("run(100) at 9900", late.run(100), LIMIT);
        DUE.is("run(301) at 9900", late.run(301), INVALID);
        DUE.is("time behind an error", late.now(0), 9900);
        DUE.is("run(99) at 9900", late.run(99), 0);
        DUE.is("time is 9999", late.now(0), 9999);
        DUE.is("run(1) at 9999", late.run(1), LIMIT);
        DUE.is("run(0) at 9999", late.run(0), INVALID);
    }

    /** Water goes down to 0 and up to 80000, and no further; the energy is as told all the same. */
    private static void promise6Capacity() {
        LagoonGates x = new LagoonGates();
        x.set(1, 400);
        x.pump(-499);
        passWhile(x, -499, 80);
        DUE.is("pump out, water before the last", x.now(6), 80);
        DUE.is("pump out, through pumps", x.next(2), -499);
        DUE.is("pump out, all together", x.next(3), -80);
        DUE.is("pump out, energy used", x.next(5), 499 * (20 + Math.abs(x.now(5))) / 100);
        x.run(1);
        DUE.is("pump out, water", x.now(6), 0);
        DUE.is("pump out, level", x.now(4), -400);
        DUE.is("pump out, flowed out", x.count(3), 40000);
        DUE.is("pump out, record", x.record(0, 5) + recordOr0(x, 1, 5), 40000);
        passWhile(x, -499, 0);
        DUE.is("empty, all together", x.next(3), 0);
        DUE.holds("empty, energy used", x.next(5) > 0);

        LagoonGates y = new LagoonGates();
        y.set(1, 400);
        y.pump(499);
        passWhile(y, 499, 79920);
        DUE.is("pump in, water before the last", y.now(6), 79920);
        DUE.is("pump in, all together", y.next(3), 80);
        DUE.is("pump in, silt of what flows", y.next(6), 1);
        y.run(1);
        DUE.is("pump in, water", y.now(6), 80000);
        DUE.is("pump in, silt", y.now(7), 80 * 9 + 1);
        DUE.is("pump in, flowed in", y.count(2), 40000);
    }

    private static int recordOr0(LagoonGates x, int day, int what) {
        int answer = x.record(day, what);
        return answer == NOT_FOUND ? 0 : answer;
    }

    // Up to the tick with that water in which the pump would work.
    private static void passWhile(LagoonGates x, int pump, int water) {
        for (int i = 0; i < 250 && (x.now(6) != water || x.next(2) != pump); i++) {
            x.run(1);
        }
    }

    private static void promise6Silt() {
        LagoonGates x = new LagoonGates();
        DUE.is("run(37), all shut", x.run(37), 0);
        x.gates(8);
        DUE.is("run(1) at the high sea", x.run(1), 55);
        DUE.is("water then", x.now(6), 45440);
        DUE.is("silt that came", x.now(7), 108);
        DUE.is("count(5)", x.count(5), 108);
        x.gates(0);
        x.run(37);
        DUE.is("head", x.now(5), -377);
        x.gates(1);
        x.set(2, 755);
        DUE.is("less than the flush", x.next(6), 0);
        x.set(2, 754);
        DUE.is("just the flush", x.next(6), -37);
        x.gates(8);
        DUE.is("no more than there is", x.next(6), -108);
        DUE.is("run(1) that flushes", x.run(1), -6);
        DUE.is("water behind the flush", x.now(6), 39408);
        DUE.is("silt behind the flush", x.now(7), 0);
        DUE.is("count(5) stays", x.count(5), 108);
        DUE.is("count(6)", x.count(6), 108);

        LagoonGates y = new LagoonGates();
        y.gates(5);
        y.set(2, 9999);
        for (int i = 0; i < 12; i++) {
            y.run(300);
        }
        DUE.is("silt comes up to 20000", y.now(7), 20000);
        DUE.is("count(5) of what came", y.count(5), 20000);
        DUE.is("count(6) without a flush", y.count(6), 0);
        for (int i = 0; i < 74 && y.next(3) < 50; i++) {
            y.run(1);
        }
        DUE.holds("water flows in", y.next(3) >= 50);
        DUE.is("none comes any more", y.next(6), 0);
        y.dredge(1);
        DUE.is("one comes again", y.next(6), 1);
    }

    private static void promise7Dredge() {
        LagoonGates x = new LagoonGates();
        DUE.is("dredge(0)", x.dredge(0), INVALID);
        DUE.is("dredge(20001)", x.dredge(20001), INVALID);
        DUE.is("dredge(1) without silt", x.dredge(1), NOT_POSSIBLE);
        DUE.is("history behind errors of dredge", x.count(8), 0);
        x.run(37);
        x.gates(8);
        x.run(1);
        DUE.is("dredge(109) of 108", x.dredge(109), NOT_POSSIBLE);
        DUE.is("dredge(20000) of 108", x.dredge(20000), NOT_POSSIBLE);
        DUE.is("dredge(8) of 108", x.dredge(8), 100);
        DUE.is("history behind dredge", x.count(8), 4);
        DUE.is("silt", x.now(7), 100);
        // 45440 of water and 100 of silt.
        DUE.is("level", x.now(4), 55);
        DUE.is("dredge(100) of 100", x.dredge(100), 0);
        DUE.is("level without silt", x.now(4), 54);
        DUE.is("count(4)", x.count(4), 108);
        DUE.is("count(6): dredging is no flush", x.count(6), 0);
    }

    private static void promise8Set() {
        LagoonGates x = new LagoonGates();
        int[] least = {1, 0, 1};
        int[] most = {400, 400, 9999};
        int[] first = {120, 40, 1500};
        DUE.is("set(-1, 1)", x.set(-1, 1), INVALID);
        DUE.is("set(3, 1)", x.set(3, 1), INVALID);
        for (int what = 0; what < 3; what++) {
            DUE.is("set below its range " + what, x.set(what, least[what] - 1), INVALID);
            DUE.is("set above its range " + what, x.set(what, most[what] + 1), INVALID);
        }
        DUE.is("history behind errors of set", x.count(8), 0);
        for (int what = 0; what < 3; what++) {
            DUE.is("set its least " + what, x.set(what, least[what]), first[what]);
            DUE.is("set its most " + what, x.set(what, most[what]), least[what]);
            DUE.is("its value " + what, x.count(20 + what), most[what]);
        }
        DUE.is("history behind set", x.count(8), 4);
    }

    private static void promise9Sea() {
        LagoonGates x = new LagoonGates();
        DUE.is("sea(-1)", x.sea(-1), INVALID);
        DUE.is("sea(10000)", x.sea(10000), INVALID);
        int[][] due = {{0, -340}, {1, -322}, {36, 321}, {37, 340}, {38, 322}, {73, -321}, {74, -340},
            {143, -248}, {144, -250}, {1008, 103}, {2016, -10}, {9999, -165}};
        for (int[] row : due) {
            DUE.is("sea(" + row[0] + ")", x.sea(row[0]), row[1]);
        }
        x.run(300);
        DUE.is("sea(37) later", x.sea(37), 340);
    }

    private static void promise10Now() {
        LagoonGates x = new LagoonGates();
        DUE.is("now(-1)", x.now(-1), INVALID);
        DUE.is("now(13)", x.now(13), INVALID);
        Lagoons.passTo(x, 1008);
        x.gates(7);
        x.turbines(5);
        x.pump(-33);
        x.birds(0, 1);
        int[] now = {1008, 7, 0, 103, 0, 103, 40000, 0, 7, 5, -33, 1, 200};
        for (int what = 0; what < now.length; what++) {
            DUE.is("now(" + what + ") at 1008", x.now(what), now[what]);
        }
        LagoonGates y = Lagoons.at(143);
        DUE.is("now(1) at 143", y.now(1), 0);
        DUE.is("now(2) at 143", y.now(2), 143);
        y.run(1);
        DUE.is("now(1) at 144", y.now(1), 1);
        DUE.is("now(2) at 144", y.now(2), 0);
        DUE.is("now(3) at 144", y.now(3), -250);
        DUE.is("now(12) at 144", y.now(12), 320);
        // Heights fall till day 7, rise till day 13, and start again.
        int[][] heights = {{6, 220}, {7, 200}, {8, 220}, {13, 320}, {14, 340}, {15, 320}, {21, 200}};
        for (int[] row : heights) {
            DUE.is("height of day " + row[0], Lagoons.at(row[0] * 144).now(12), row[1]);
        }
        LagoonGates z = new LagoonGates();
        z.gates(1);
        z.run(1);
        // 39320 of water: 393 of level, rounded down.
        DUE.is("level rounded down", z.now(4), -7);
        DUE.is("head", z.now(5), -322 + 7);
    }

    private static void promise11Record() {
        LagoonGates x = new LagoonGates();
        DUE.is("record(-1, 0)", x.record(-1, 0), INVALID);
        DUE.is("record(0, -1)", x.record(0, -1), INVALID);
        DUE.is("record(0, 6)", x.record(0, 6), INVALID);
        DUE.is("record(5, 6)", x.record(5, 6), INVALID);
        DUE.is("record(0, 0), no tick", x.record(0, 0), NOT_FOUND);
        x.run(37);
        x.gates(8);
        x.run(1);
        x.gates(0);
        x.run(37);
        x.gates(8);
        x.run(1);
        x.gates(0);
        int[] record = {0, 0, 55, -6, 5440, 6032};
        for (int what = 0; what < 6; what++) {
            DUE.is("record(0, " + what + ")", x.record(0, what), record[what]);
        }
        x.turbines(6);
        x.set(1, 400);
        x.pump(10);
        int made = x.next(4);
        int used = x.next(5);
        x.run(1);
        DUE.is("record(0, 0)", x.record(0, 0), made);
        DUE.is("record(0, 1)", x.record(0, 1), used);

        LagoonGates y = Lagoons.at(144);
        DUE.is("record(1, 0) before its first tick", y.record(1, 0), NOT_FOUND);
        y.gates(1);
        int level = y.run(1);
        // The tick at 144 belongs to day 1, whose record has no level of an earlier day.
        DUE.is("record(0, 3) of the day before", y.record(0, 3), 0);
        DUE.is("record(1, 2)", y.record(1, 2), level);
        DUE.is("record(1, 3)", y.record(1, 3), level);

        LagoonGates z = new LagoonGates();
        z.gates(1);
        z.run(1);
        z.gates(0);
        Lagoons.passTo(z, 1440);
        DUE.is("record(0, 5) at 1440", z.record(0, 5), 680);
        DUE.is("record(10, 0) at 1440", z.record(10, 0), NOT_FOUND);
        z.run(1);
        DUE.is("record(0, 5) at 1441", z.record(0, 5), NOT_FOUND);
        DUE.is("record(1, 5) at 1441", z.record(1, 5), 0);
        DUE.is("record(10, 5) at 1441", z.record(10, 5), 0);
        DUE.is("record(11, 5) at 1441", z.record(11, 5), NOT_FOUND);
        z.undo();
        DUE.is("record(0, 5) behind undo", z.record(0, 5), 680);
    }

    private static void promise12Next() {
        LagoonGates x = new LagoonGates();
        DUE.is("next(-1)", x.next(-1), INVALID);
        DUE.is("next(7)", x.next(7), INVALID);
        x.gates(4);
        x.turbines(3);
        x.pump(-7);
        DUE.next("near is 40", x, -2720, -1020, 0, -3740, 3468, 0, 0);
        x.set(1, 339);
        DUE.next("near is 339", x, -2720, -1020, 0, -3740, 3468, 0, 0);
        x.set(1, 340);
        // 7 * (20 + 340) / 100 is 25.2
        DUE.next("near is 340", x, -2720, -1020, -7, -3747, 3468, 25, 0);
        x.set(0, 341);
        DUE.next("least head is 341", x, -2720, 0, -7, -2727, 0, 25, 0);
        x.set(0, 340);
        DUE.next("least head is 340", x, -2720, -1020, -7, -3747, 3468, 25, 0);
        x.birds(0, 1);
        DUE.next("hour of birds", x, 0, -1020, 0, -1020, 3468, 0, 0);
        x.birds(1, 144);
        DUE.next("no hour of birds", x, -2720, -1020, -7, -3747, 3468, 25, 0);
        DUE.is("next passes no time", x.now(0), 0);
        LagoonGates y = Lagoons.at(37);
        y.gates(2);
        y.turbines(1);
        y.pump(500);
        y.set(1, 400);
        DUE.next("into the basin", y, 1360, 340, 500, 2200, 1156, 1800, 44);
        LagoonGates last = Lagoons.at(9999);
        last.gates(1);
        DUE.is("next(0) at 9999", last.next(0), -330);
    }

    private static void promise13Would() {
        LagoonGates x = new LagoonGates();
        DUE.is("would(-1, 0)", x.would(-1, 0), INVALID);
        DUE.is("would(301, 0)", x.would(301, 0), INVALID);
        DUE.is("would(1, -1)", x.would(1, -1), INVALID);
        DUE.is("would(1, 4)", x.would(1, 4), INVALID);
        x.gates(4);
        x.turbines(6);
        x.pump(100);
        x.set(1, 340);
        DUE.is("would(0, 0)", x.would(0, 0), 0);
        DUE.is("would(0, 1)", x.would(0, 1), 0);
        DUE.is("would(1, 0)", x.would(1, 0), -47);
        DUE.is("would(1, 1)", x.would(1, 1), 6936);
        DUE.is("would(1, 2)", x.would(1, 2), 360);
        DUE.is("would(1, 3)", x.would(1, 3), 0);
        DUE.is("would changes nothing", x.now(0) + x.count(0) + x.count(1), 0);
        x.run(100);
        int[] now = {x.would(300, 0), x.would(300, 1), x.would(300, 2), x.would(300, 3)};
        int made = x.count(0);
        int used = x.count(1);
        DUE.is("would(300, 0) is kept", x.run(300), now[0]);
        DUE.is("would(300, 1) is kept", x.count(0) - made, now[1]);
        DUE.is("would(300, 2) is kept", x.count(1) - used, now[2]);
        DUE.is("would(300, 3) is kept", x.now(7), now[3]);
        LagoonGates last = Lagoons.at(9999);
        last.gates(1);
        // The head is -165 at 9999, and the flow -330.
        DUE.is("would(1, 0) behind the last time", last.would(1, 0), -4);
    }

    private static void promise14SeaAt() {
        LagoonGates x = new LagoonGates();
        DUE.is("seaAt(-401)", x.seaAt(-401), INVALID);
        DUE.is("seaAt(401)", x.seaAt(401), INVALID);
        DUE.is("seaAt(-400)", x.seaAt(-400), 0);
        DUE.is("seaAt(-340)", x.seaAt(-340), 0);
        DUE.is("seaAt(-339)", x.seaAt(-339), 1);
        DUE.is("seaAt(-322)", x.seaAt(-322), 1);
        DUE.is("seaAt(-321)", x.seaAt(-321), 2);
        DUE.is("seaAt(340)", x.seaAt(340), 37);
        DUE.is("seaAt(341)", x.seaAt(341), NOT_FOUND);
        DUE.is("seaAt(400)", x.seaAt(400), NOT_FOUND);
        x.run(38);
        DUE.is("seaAt(340) at 38", x.seaAt(340), 73);
        LagoonGates y = Lagoons.at(112);
        // The next day as high as day 0 is day 14, and its first high sea is at 2035.
        DUE.is("seaAt(340) at 112", y.seaAt(340), 2035 - 112);
        LagoonGates last = Lagoons.at(9999);
        DUE.is("seaAt(340) at 9999", last.seaAt(340), 10101 - 9999);
    }

    private static void promise15Best() {
        LagoonGates x = new LagoonGates();
        DUE.is("best(0, 0)", x.best(0, 0), INVALID);
        DUE.is("best(151, 0)", x.best(151, 0), INVALID);
        DUE.is("best(1, -1)", x.best(1, -1), INVALID);
        DUE.is("best(1, 2)", x.best(1, 2), INVALID);
        x.turbines(2);
        DUE.is("best(1, 0)", x.best(1, 0), 6);
        DUE.is("best(1, 1)", x.best(1, 1), 6936);
        x.pump(100);
        x.set(1, 400);
        DUE.is("best(1, 1) less what is used", x.best(1, 1), 6936 - 360);
        x.set(0, 400);
        DUE.is("best(1, 0) of several", x.best(1, 0), 0);
        DUE.is("best(1, 1) below 0", x.best(1, 1), -360);
        DUE.is("best changes nothing", x.now(0) * 10 + x.now(9), 2);
        LagoonGates y = new LagoonGates();
        y.set(0, 322);
        // With any turbine the head of the second tick is below 322; without one none is made.
        DUE.is("best(2, 1)", y.best(2, 1), 6936);
        boolean between = false;
        for (int least = 1; least <= 400; least += 7) {
            LagoonGates z = new LagoonGates();
            z.gates(1);
            z.set(0, least);
            int most = bestByHand(z, 150);
            DUE.is("best(150, 0) with the least head " + least, z.best(150, 0), most);
            between = between || most > 0 && most < 6;
        }
        DUE.holds("some best number is between 0 and 6", between);
    }

    /** States in which all shut, and just one turbine, are better than every other number. */
    private static void promise15BestOfFew() {
        int[][] rows = {{201, 1, -384, 2, 25, 3, 0, -107}, {213, 7, -476, 148, 137, 99, 0, -38599},
            {249, 7, 163, 129, 124, 32, 1, -2450}};
        for (int[] row : rows) {
            LagoonGates x = Lagoons.at(row[0]);
            x.turbines(6);
            x.run(1);
            x.undo();
            x.gates(row[1]);
            x.pump(row[2]);
            x.set(0, row[3]);
            x.set(1, row[4]);
            DUE.is("best number by hand at " + row[0], bestByHand(x, row[5]), row[6]);
            DUE.is("best(" + row[5] + ", 0) at " + row[0], x.best(row[5], 0), row[6]);
            DUE.is("best(" + row[5] + ", 1) at " + row[0], x.best(row[5], 1), row[7]);
        }
        LagoonGates y = new LagoonGates();
        y.turbines(6);
        y.run(1);
        // 2040 flow out, and 37960 of water are a level of -21.
        DUE.is("head behind a tick", y.now(5), -322 + 21);
        DUE.is("best(1, 1) behind energy made", y.best(1, 1), 6 * 301 * 301 / 100);
    }

    private static int bestByHand(LagoonGates x, int ticks) {
        int found = -1;
        int most = 0;
        for (int many = 0; many <= 6; many++) {
            x.turbines(many);
            int gain = x.would(ticks, 1) - x.would(ticks, 2);
            x.undo();
            if (found < 0 || gain > most) {
                found = many;
                most = gain;
            }
        }
        return found;
    }

    private static void promise16GatesFor() {
        LagoonGates x = new LagoonGates();
        DUE.is("gatesFor(0, 0)", x.gatesFor(0, 0), INVALID);
        DUE.is("gatesFor(151, 0)", x.gatesFor(151, 0), INVALID);
        DUE.is("gatesFor(1, -401)", x.gatesFor(1, -401), INVALID);
        DUE.is("gatesFor(1, 601)", x.gatesFor(1, 601), INVALID);
        x.gates(3);
        // Behind a tick, by gates from 0 on: 0, -7, -14, -21, -28, -34, -41, -48, -55.
        int[][] due = {{600, 0}, {0, 0}, {-3, 0}, {-4, 1}, {-10, 1}, {-11, 2}, {-31, 4}, {-32, 5}, {-51, 7},
            {-52, 8}, {-400, 8}};
        for (int[] row : due) {
            DUE.is("gatesFor(1, " + row[0] + ")", x.gatesFor(1, row[0]), row[1]);
        }
        DUE.is("gatesFor changes nothing", x.now(0) * 10 + x.now(8), 3);
        x.birds(0, 144);
        DUE.is("gatesFor(150, -400) in hours of birds", x.gatesFor(150, -400), 0);
        LagoonGates y = new LagoonGates();
        y.gates(8);
        y.run(1);
        // The level is -55, the head -267, and a gate lets 534 out.
        DUE.is("gatesFor(1, -55) at the level -55", y.gatesFor(1, -55), 0);
        DUE.is("gatesFor(1, 55) at the level -55", y.gatesFor(1, 55), 0);
        DUE.is("gatesFor(1, -61) at the level -55", y.gatesFor(1, -61), 1);
    }

    private static void promise17BestDay() {
        LagoonGates x = new LagoonGates();
        DUE.is("bestDay() without a record", x.bestDay(), NOT_FOUND);
        x.run(1);
        DUE.is("bestDay() of one day", x.bestDay(), 0);
        Lagoons.passTo(x, 300);
        DUE.is("bestDay() of days alike", x.bestDay(), 0);
        x.turbines(1);
        x.run(20);
        x.turbines(0);
        DUE.is("bestDay() behind turbines", x.bestDay(), 2);
        Lagoons.passTo(x, 144 * 12);
        DUE.is("bestDay() while it is kept", x.bestDay(), 2);
        x.run(1);
        DUE.is("bestDay() when it has gone", x.bestDay(), 3);
    }

    private static void promise18Share() {
        LagoonGates x = new LagoonGates();
        DUE.is("share() when none was made", x.share(), NOT_FOUND);
        x.set(1, 400);
        x.pump(500);
        x.run(1);
        DUE.is("share() when some was used", x.share(), NOT_FOUND);
        LagoonGates y = new LagoonGates();
        y.turbines(6);
        y.run(1);
        DUE.is("share() when none was used", y.share(), 0);
        y.set(1, 400);
        for (int pump = -500; pump <= 500; pump += 125) {
            y.pump(pump);
            y.run(29);
            DUE.is("share() with the pump " + pump, y.share(), bitsOf(y.count(1), y.count(0)));
        }
        LagoonGates one = Lagoons.at(18);
        one.set(0, 1);
        one.turbines(1);
        // The head is -10, and 10 * 10 / 100 is made.
        one.run(1);
        DUE.is("made just 1", one.count(0), 1);
        DUE.is("share() when just 1 was made", one.share(), 0);
        LagoonGates z = new LagoonGates();
        z.pump(500);
        z.set(1, 400);
        z.run(300);
        z.run(300);
        z.set(0, Math.abs(z.now(5)));
        z.turbines(1);
        z.run(1);
        z.turbines(0);
        DUE.holds("more was used than made", z.count(1) > z.count(0));
        for (int i = 0; i < 30; i++) {
            z.run(300);
            DUE.is("share() above 1", z.share(), bitsOf(z.count(1), z.count(0)));
        }
    }

    private static int bitsOf(int used, int made) {
        return Float.floatToIntBits((float) used / (float) made);
    }

    private static void promise19Count() {
        LagoonGates x = new LagoonGates();
        int[] wrong = {-1, 10, 19, 23};
        for (int what : wrong) {
            DUE.is("count(" + what + ")", x.count(what), INVALID);
        }
        x.turbines(6);
        x.set(1, 400);
        x.pump(100);
        x.run(1);
        DUE.is("count(0)", x.count(0), 6936);
        DUE.is("count(1)", x.count(1), 360);
        DUE.is("count(2)", x.count(2), 0);
        DUE.is("count(3)", x.count(3), 1940);
        x.turbines(0);
        x.set(1, 340);
        DUE.is("head", x.now(5), -322 + 20);
        x.run(1);
        DUE.is("count(1) goes on", x.count(1), 360 + 322);
        DUE.is("count(2) goes on", x.count(2), 100);
        DUE.is("count(3) goes on", x.count(3), 1940);
        DUE.is("count(5)", x.count(5), 2);
        x.dredge(1);
        DUE.is("count(4)", x.count(4), 1);
        DUE.is("count(7)", x.count(7), 1);
        DUE.is("count(8)", x.count(8), 4);
        Lagoons.type(x, "g1");
        DUE.is("count(9)", x.count(9), 2);
        DUE.is("count(20)", x.count(20), 120);
        DUE.is("count(21)", x.count(21), 340);
        DUE.is("count(22)", x.count(22), 1500);
        int[][] records = {{143, 1}, {144, 1}, {145, 2}, {1296, 9}, {1297, 10}, {1440, 10}, {1441, 10}, {9999, 10}};
        for (int[] row : records) {
            DUE.is("count(7) at " + row[0], Lagoons.at(row[0]).count(7), row[1]);
        }
    }

    private static void promise20Undo() {
        LagoonGates x = new LagoonGates();
        DUE.is("undo() of a new object", x.undo(), NOT_POSSIBLE);
        x.gates(1);
        x.turbines(2);
        x.pump(3);
        x.birds(4, 5);
        x.set(0, 6);
        x.run(7);
        DUE.is("states", x.count(8), 4);
        DUE.is("undo() of run", x.undo(), 3);
        DUE.is("time", x.now(0), 0);
        DUE.is("water", x.now(6), 40000);
        DUE.is("records", x.count(7), 0);
        DUE.is("made", x.count(0), 0);
        DUE.is("setting", x.count(20), 6);
        DUE.is("undo() of set", x.undo(), 2);
        DUE.is("setting of before", x.count(20), 120);
        x.birds(0, 10);
        DUE.is("states behind a change", x.count(8), 3);
        DUE.is("undo() of birds", x.undo(), 2);
        DUE.is("hour of birds", x.now(11), 0);
        DUE.is("pump stays", x.now(10), 3);
        DUE.is("undo() of birds", x.undo(), 1);
        DUE.is("undo() of pump", x.undo(), 0);
        DUE.is("pump of before", x.now(10), 0);
        DUE.is("turbines of the oldest state", x.now(9), 2);
        DUE.is("undo() of a dropped state", x.undo(), NOT_POSSIBLE);
        DUE.is("gates stay", x.now(8), 1);

        LagoonGates y = new LagoonGates();
        y.run(37);
        y.gates(8);
        y.run(1);
        y.dredge(100);
        y.undo();
        DUE.is("silt of before", y.now(7), 108);
        DUE.is("dredged of before", y.count(4), 0);
        Lagoons.type(y, "g2;");
        y.play();
        Lagoons.type(y, "g2;t1");
        DUE.is("undo() of play", y.undo(), 3);
        DUE.is("the text stays", y.count(9), 5);
        DUE.is("gates of before play", y.now(8), 8);
    }

    private static void promise21Type() {
        LagoonGates x = new LagoonGates();
        DUE.is("type(31)", x.type(31), INVALID);
        DUE.is("type(127)", x.type(127), INVALID);
        DUE.is("type(-1)", x.type(-1), INVALID);
        DUE.is("type(65536 + 'g')", x.type(65536 + 'g'), INVALID);
        DUE.is("type(32)", x.type(32), 1);
        DUE.is("type(126)", x.type(126), 2);
        for (int length = 3; length <= 60; length++) {
            DUE.is("type to the length " + length, x.type('g'), length);
        }
        DUE.is("type at the limit", x.type('g'), LIMIT);
        DUE.is("type(31) at the limit", x.type(31), INVALID);
        DUE.is("length at the limit", x.count(9), 60);
        DUE.is("type is no change", x.count(8), 0);
    }

    private static void promise22ClearText() {
        LagoonGates x = new LagoonGates();
        DUE.is("clearText() of none", x.clearText(), 0);
        Lagoons.type(x, "g9;");
        DUE.is("clearText()", x.clearText(), 3);
        DUE.is("length", x.count(9), 0);
        DUE.is("fault of no text", x.fault(0), NOT_FOUND);
        DUE.is("clearText() again", x.clearText(), 0);
        DUE.is("clearText is no change", x.count(8), 0);
        Lagoons.type(x, "t1;");
        x.play();
        DUE.is("a text behind it", x.now(9), 1);
    }

    private static void faultIs(LagoonGates x, String orders, int place, int reason, int cause) {
        Lagoons.type(x, orders);
        DUE.is("fault(0) of " + orders, x.fault(0), place);
        DUE.is("fault(1) of " + orders, x.fault(1), reason);
        DUE.is("fault(2) of " + orders, x.fault(2), cause);
        int gates = x.now(8);
        int time = x.now(0);
        int states = x.count(8);
        DUE.is("play() of " + orders, x.play(), NOT_POSSIBLE);
        DUE.is("play() of a fault changes nothing: " + orders,
                Math.abs(x.now(8) - gates) + Math.abs(x.now(0) - time) + Math.abs(x.count(8) - states), 0);
    }

    private static void faultless(LagoonGates x, String orders) {
        Lagoons.type(x, orders);
        for (int what = 0; what < 3; what++) {
            DUE.is("fault(" + what + ") of " + orders, x.fault(what), NOT_FOUND);
        }
    }

    private static void promise23FaultOfForm() {
        LagoonGates x = new LagoonGates();
        DUE.is("fault(-1)", x.fault(-1), INVALID);
        DUE.is("fault(3)", x.fault(3), INVALID);
        faultless(x, "");
        faultless(x, "g8;");
        faultless(x, "g008;t06;p500;q500;b143,144;b000,000;r300;r001;");
        String[] broken = {";", "x1;", "G1;", " g1;", "1;", "g", "g;", "g1", "g12", "g1 ;", "g-1;", "g0008;",
            "g0008", "g,1;", "g1,2;", "t;", "pp", "q+1;", "r1:", "b", "b;", "b1", "b1;", "b1,", "b1,;", "b1,2",
            "b1,2,", "b1234", "b123,4567;", "b,1;", "~"};
        int[] breaks = {0, 0, 0, 0, 0, 1, 1, 2, 3, 2, 1, 4,
            4, 1, 2, 1, 1, 1, 2, 1, 1, 2, 2, 3, 3, 4,
            4, 4, 8, 1, 0};
        for (int i = 0; i < broken.length; i++) {
            faultIs(new LagoonGates(), broken[i], 0, 1, breaks[i]);
            faultIs(new LagoonGates(), "g1;b1,2;" + broken[i], 8, 1, breaks[i]);
        }
        // Digits that a longer text left behind the end do not count.
        Lagoons.type(x, "g1;");
        faultIs(x, "g", 0, 1, 1);
        faultIs(x, "g1;x;g9;", 3, 1, 0);
    }

    private static void promise23FaultOfState() {
        LagoonGates x = new LagoonGates();
        String[] refused = {"g9;", "g999;", "t7;", "p501;", "q501;", "b144,0;", "b0,145;", "r0;", "r000;", "r301;"};
        for (String order : refused) {
            faultIs(new LagoonGates(), order, 0, 2, INVALID);
            faultIs(new LagoonGates(), "r1;" + order + "x", 3, 2, INVALID);
        }
        faultIs(x, "g9;x", 0, 2, INVALID);
        LagoonGates late = Lagoons.at(9700);
        faultless(late, "r299;");
        faultIs(late, "r300;", 0, 2, LIMIT);
        faultIs(late, "r301;", 0, 2, INVALID);
        faultIs(late, "r200;r100;", 5, 2, LIMIT);
        faultless(late, "r200;r99;");
        faultIs(late, "r200;g1;r99;t1;r1;", 15, 2, LIMIT);
        DUE.is("fault does nothing", late.now(0) * 10 + late.now(8), 97000);
        DUE.is("fault is no change", x.count(8), 0);
        // 12 orders of 300 ticks end at 3600, which is possible from 6399 on the latest.
        faultless(Lagoons.at(6399), "r300;r300;r300;r300;r300;r300;r300;r300;r300;r300;r300;r300;");
        faultIs(Lagoons.at(6400), "r300;r300;r300;r300;r300;r300;r300;r300;r300;r300;r300;r300;", 55, 2, LIMIT);
    }

    private static void promise24Play() {
        LagoonGates x = new LagoonGates();
        DUE.is("play() of no orders", x.play(), 0);
        DUE.is("play() of no orders is a change", x.count(8), 1);
        Lagoons.type(x, "g4;t6;r1;q7;b2,9;");
        DUE.is("play()", x.play(), 5);
        DUE.is("one change", x.count(8), 2);
        DUE.is("water", x.now(6), 35240);
        DUE.is("made", x.count(0), 6936);
        DUE.is("gates", x.now(8), 4);
        DUE.is("turbines", x.now(9), 6);
        DUE.is("pump", x.now(10), -7);
        DUE.is("no hour of birds yet", x.now(11), 0);
        DUE.is("text stays", x.count(9), 17);
        DUE.is("play() again", x.play(), 5);
        DUE.is("time", x.now(0), 2);
        DUE.is("hour of birds", x.now(11), 1);
        x.undo();
        x.undo();
        DUE.is("all of play is undone", x.now(6), 40000);
        DUE.is("gates are undone", x.now(8), 0);
        DUE.is("pump is undone", x.now(10), 0);
        Lagoons.type(x, "p12;g0;");
        DUE.is("play() of a pump", x.play(), 2);
        DUE.is("pump into the basin", x.now(10), 12);
        Lagoons.type(x, "g1;g1;g1;g1;g1;g1;g1;g1;g1;g1;g1;g1;g1;g1;g1;g1;g1;g1;g1;g2;");
        DUE.is("play() of most orders", x.play(), 20);
        DUE.is("the last of them", x.now(8), 2);

        LagoonGates once = new LagoonGates();
        LagoonGates called = new LagoonGates();
        Lagoons.type(once, "g3;r200;t4;b10,99;r300;q20;r77;");
        once.play();
        called.gates(3);
        called.run(200);
        called.turbines(4);
        called.birds(10, 99);
        called.run(300);
        called.pump(-20);
        called.run(77);
        for (int what = 0; what <= 12; what++) {
            DUE.is("play() as against calls, now(" + what + ")", once.now(what), called.now(what));
        }
        for (int what = 0; what <= 7; what++) {
            DUE.is("play() as against calls, count(" + what + ")", once.count(what), called.count(what));
        }
    }

    /** What was tried, or refused, before a change has no part in it. */
    private static void changesStartFromThePresent() {
        for (int change = 0; change < 8; change++) {
            LagoonGates x = new LagoonGates();
            x.run(37);
            x.gates(8);
            x.run(1);
            x.turbines(2);
            Lagoons.type(x, "g3;t1;r200;g9;");
            x.would(100, 0);
            x.best(50, 0);
            x.gatesFor(50, 0);
            x.play();
            x.clearText();
            change(x, change);
            // Silt of 108 came till now; one change alone is to be seen.
            DUE.is("time, change " + change, x.now(0), change == 4 ? 39 : 38);
            DUE.is("gates, change " + change, x.now(8), change == 0 ? 1 : 8);
            DUE.is("turbines, change " + change, x.now(9), change == 1 ? 1 : 2);
            DUE.is("pump, change " + change, x.now(10), change == 2 ? 1 : 0);
            DUE.is("hour of birds, change " + change, x.now(11), change == 3 ? 1 : 0);
            DUE.is("dredged, change " + change, x.count(4), change == 5 ? 1 : 0);
            DUE.is("near, change " + change, x.count(21), change == 6 ? 1 : 40);
            DUE.is("flowed in, change " + change, x.count(2), change == 4 ? 5440 + 18 * 267 : 5440);
        }
    }

    private static void change(LagoonGates x, int change) {
        switch (change) {
            case 0:
                x.gates(1);
                break;
            case 1:
                x.turbines(1);
                break;
            case 2:
                x.pump(1);
                break;
            case 3:
                x.birds(38, 39);
                break;
            case 4:
                x.run(1);
                break;
            case 5:
                x.dredge(1);
                break;
            case 6:
                x.set(1, 1);
                break;
            default:
                x.play();
                break;
        }
    }

    /** Arguments far outside every range are told, and change nothing. */
    private static void farArguments() {
        LagoonGates x = new LagoonGates();
        for (int far : FAR) {
            DUE.is("gates far", x.gates(far), INVALID);
            DUE.is("turbines far", x.turbines(far), INVALID);
            DUE.is("pump far", x.pump(far), INVALID);
            DUE.is("birds far", x.birds(far, 5), INVALID);
            DUE.is("birds far", x.birds(5, far), INVALID);
            DUE.is("run far", x.run(far), INVALID);
            DUE.is("dredge far", x.dredge(far), INVALID);
            DUE.is("set far", x.set(far, 1), INVALID);
            DUE.is("set far", x.set(1, far), INVALID);
            DUE.is("sea far", x.sea(far), INVALID);
            DUE.is("now far", x.now(far), INVALID);
            DUE.is("record far", x.record(far, 0), far < 0 ? INVALID : NOT_FOUND);
            DUE.is("record far", x.record(0, far), INVALID);
            DUE.is("next far", x.next(far), INVALID);
            DUE.is("would far", x.would(far, 0), INVALID);
            DUE.is("would far", x.would(0, far), INVALID);
            DUE.is("seaAt far", x.seaAt(far), INVALID);
            DUE.is("best far", x.best(far, 0), INVALID);
            DUE.is("best far", x.best(1, far), INVALID);
            DUE.is("gatesFor far", x.gatesFor(far, 0), INVALID);
            DUE.is("gatesFor far", x.gatesFor(1, far), INVALID);
            DUE.is("count far", x.count(far), INVALID);
            DUE.is("type far", x.type(far), INVALID);
            DUE.is("fault far", x.fault(far), INVALID);
        }
        DUE.is("nothing changed", x.count(8) + x.count(9) + x.now(0), 0);
    }
}
