/** Runs of 500 to 512 calls, drawn from fixed seeds, each answer compared with PlainLagoon's. */
public final class ModelTest {
    private static final int RUNS = 700;
    // An object is used for 512 calls; a step of a run has up to 12.
    private static final int CALLS = 500;

    private final LagoonGates lagoon = new LagoonGates();
    private final PlainLagoon plain = new PlainLagoon();
    private final Due due;
    private final int run;
    private long seed;
    private int calls;
    private final StringBuilder told = new StringBuilder();

    private ModelTest(Due due, int run) {
        this.due = due;
        this.run = run;
        seed = run * 2654435761L + 12345;
    }

    public static void main(String[] args) {
        Due due = new Due("ModelTest");
        for (int run = 0; run < RUNS && due.wrong() == 0; run++) {
            new ModelTest(due, run).runAll();
        }
        due.end();
    }

    private void runAll() {
        while (calls <= CALLS && due.wrong() == 0) {
            switch (draw(5)) {
                case 0:
                    change();
                    break;
                case 1:
                    ask();
                    break;
                case 2:
                    foresee();
                    break;
                case 3:
                    write();
                    break;
                default:
                    // Some runs are for time alone, so that late times are reached too.
                    if (run % 3 == 0) {
                        runTicks(200 + draw(101));
                    } else {
                        change();
                    }
                    break;
            }
        }
        if (due.wrong() != 0) {
            System.out.println("run " + run + ":" + told);
        }
    }

    private int draw(int many) {
        seed = seed * 6364136223846793005L + 1442695040888963407L;
        return (int) ((seed >>> 33) % many);
    }

    /** A number of a range, often its edge or just outside it. */
    private int near(int least, int most) {
        switch (draw(12)) {
            case 0:
                return least;
            case 1:
                return most;
            case 2:
                return draw(4) == 0 ? least - 1 : least;
            case 3:
                return draw(4) == 0 ? most + 1 : most;
            default:
                return least + draw(most - least + 1);
        }
    }

    private void same(String call, long got, long want) {
        calls++;
        told.append(' ').append(call);
        due.is(call, got, want);
    }

    private void runTicks(int ticks) {
        same("run(" + ticks + ")", lagoon.run(ticks), plain.change('r', ticks, 0));
    }

    private void change() {
        int first;
        int second;
        switch (draw(9)) {
            case 0:
                first = near(0, 8);
                same("gates(" + first + ")", lagoon.gates(first), plain.change('g', first, 0));
                break;
            case 1:
                first = near(0, 6);
                same("turbines(" + first + ")", lagoon.turbines(first), plain.change('t', first, 0));
                break;
            case 2:
                first = near(-500, 500);
                same("pump(" + first + ")", lagoon.pump(first), plain.change('p', first, 0));
                break;
            case 3:
                first = near(0, 143);
                second = near(0, 144);
                same("birds(" + first + ", " + second + ")", lagoon.birds(first, second),
                        plain.change('b', first, second));
                break;
            case 4:
                runTicks(draw(3) == 0 ? near(1, 300) : 1 + draw(60));
                break;
            case 5:
                first = draw(2) == 0 ? near(1, 20000) : near(1, (int) Math.max(1, plain.now(7)));
                same("dredge(" + first + ")", lagoon.dredge(first), plain.change('d', first, 0));
                break;
            case 6:
                int[] least = {1, 0, 1};
                int[] most = {400, 400, 9999};
                first = near(0, 2);
                second = first < 0 || first > 2 ? draw(400) : near(least[first], most[first]);
                same("set(" + first + ", " + second + ")", lagoon.set(first, second),
                        plain.change('s', first, second));
                break;
            case 7:
                if (draw(2) == 0) {
                    same("undo()", lagoon.undo(), plain.undo());
                }
                break;
            default:
                toTheEdge();
                break;
        }
    }

    /** Sets a setting to what the next tick turns on, or just beside it. */
    private void toTheEdge() {
        int what = draw(3);
        int value = (int) (what == 2 ? -plain.next(3) : Math.abs(plain.now(5))) + draw(2);
        same("set(" + what + ", " + value + ")", lagoon.set(what, value), plain.change('s', what, value));
        for (int next = 0; next < 7; next++) {
            same("next(" + next + ")", lagoon.next(next), plain.next(next));
        }
    }

    private void ask() {
        int what;
        switch (draw(6)) {
            case 0:
                what = near(0, 9999);
                same("sea(" + what + ")", lagoon.sea(what), plain.sea(what));
                break;
            case 1:
                what = near(0, 12);
                same("now(" + what + ")", lagoon.now(what), plain.now(what));
                break;
            case 2:
                int today = (int) plain.now(1);
                int day = near(draw(3) == 0 ? 0 : Math.max(0, today - 11), today + 1);
                what = near(0, 5);
                same("record(" + day + ", " + what + ")", lagoon.record(day, what), plain.record(day, what));
                break;
            case 3:
                what = near(0, 6);
                same("next(" + what + ")", lagoon.next(what), plain.next(what));
                break;
            case 4:
                what = near(0, 24);
                same("count(" + what + ")", lagoon.count(what), plain.count(what));
                break;
            default:
                same("bestDay()", lagoon.bestDay(), plain.bestDay());
                same("share()", lagoon.share(), plain.share());
                break;
        }
    }

    private void foresee() {
        int ticks;
        int what;
        switch (draw(8)) {
            case 0:
                ticks = near(0, 300);
                what = near(0, 3);
                same("would(" + ticks + ", " + what + ")", lagoon.would(ticks, what), plain.would(ticks, what));
                break;
            case 1:
                what = near(-400, 400);
                same("seaAt(" + what + ")", lagoon.seaAt(what), plain.seaAt(what));
                break;
            case 2:
                ticks = near(1, 150);
                what = near(0, 1);
                same("best(" + ticks + ", " + what + ")", lagoon.best(ticks, what), plain.best(ticks, what));
                break;
            case 3:
                ticks = draw(2) == 0 ? 1 + draw(5) : near(1, 150);
                what = near(-400, 600);
                same("gatesFor(" + ticks + ", " + what + ")", lagoon.gatesFor(ticks, what),
                        plain.gatesFor(ticks, what));
                break;
            case 4:
                ticks = 1 + draw(20);
                what = (int) plain.now(4) - 20 + draw(41);
                same("gatesFor(" + ticks + ", " + what + ")", lagoon.gatesFor(ticks, what),
                        plain.gatesFor(ticks, what));
                break;
            default:
                break;
        }
    }

    private void write() {
        switch (draw(6)) {
            case 0:
                same("clearText()", lagoon.clearText(), plain.clearText());
                break;
            case 1:
                for (int what = 0; what < 3; what++) {
                    same("fault(" + what + ")", lagoon.fault(what), plain.fault(what));
                }
                break;
            case 2:
                same("play()", lagoon.play(), plain.play());
                break;
            case 3:
                if (draw(6) == 0) {
                    int character = near(32, 126);
                    same("type(" + character + ")", lagoon.type(character), plain.type(character));
                }
                break;
            default:
                writeOrder();
                break;
        }
    }

    private void writeOrder() {
        String order = order();
        int length = draw(12) == 0 ? draw(order.length() + 1) : order.length();
        for (int i = 0; i < length; i++) {
            char character = order.charAt(i);
            same("type('" + character + "')", lagoon.type(character), plain.type(character));
        }
    }

    private String order() {
        String zeros = draw(4) == 0 ? "0" : "";
        switch (draw(6)) {
            case 0:
                return "g" + zeros + draw(draw(4) == 0 ? 12 : 9) + ";";
            case 1:
                return "t" + zeros + draw(draw(4) == 0 ? 9 : 7) + ";";
            case 2:
                return "p" + draw(draw(4) == 0 ? 1100 : 501) + ";";
            case 3:
                return "q" + draw(draw(4) == 0 ? 1100 : 501) + ";";
            case 4:
                return "b" + zeros + near(0, 143) + "," + near(0, 144) + ";";
            default:
                return "r" + near(1, 300) + ";";
        }
    }
}
