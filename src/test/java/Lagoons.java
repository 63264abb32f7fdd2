/** Lagoons in the states that tests start from, each made in few calls, and what tests often do. */
final class Lagoons {
    private Lagoons() {
    }

    /** All shut, and the basin's level 0, at a time. */
    static LagoonGates at(int time) {
        LagoonGates x = new LagoonGates();
        passTo(x, time);
        return x;
    }

    /** Pumped in the first ticks, at most 500 in each, then let alone up to a time; the settings are the first. */
    static LagoonGates pumped(int flow, int ticks, int time) {
        LagoonGates x = new LagoonGates();
        x.set(1, 400);
        x.pump(flow);
        x.run(ticks);
        x.pump(0);
        x.set(1, 40);
        passTo(x, time);
        return x;
    }

    /** 80000 of water and 800 of silt, a level of 408, at the time 333 with the sea at 300; near is 400. */
    static LagoonGates full() {
        LagoonGates x = new LagoonGates();
        x.set(1, 400);
        x.pump(500);
        passTo(x, 333);
        x.pump(0);
        return x;
    }

    /** No water and no silt, a level of -400, at the time 370 with the sea at -300; near is 400. */
    static LagoonGates empty() {
        LagoonGates x = new LagoonGates();
        x.set(1, 400);
        x.pump(-500);
        passTo(x, 370);
        x.pump(0);
        return x;
    }

    /** 36010 of water and 20000 of silt at the time 3600; the flush is 9999, near is 400, all is shut. */
    static LagoonGates silted() {
        LagoonGates x = new LagoonGates();
        x.set(2, 9999);
        x.gates(5);
        passTo(x, 3600);
        x.gates(0);
        x.set(1, 400);
        return x;
    }

    static void passTo(LagoonGates x, int time) {
        for (int now = x.now(0); now < time; now = x.now(0)) {
            x.run(Math.min(300, time - now));
        }
    }

    /** Writes a text in the place of the one that was. */
    static void type(LagoonGates x, String orders) {
        x.clearText();
        for (int i = 0; i < orders.length(); i++) {
            x.type(orders.charAt(i));
        }
    }
}
