import java.util.function.Supplier;
import java.util.function.ToIntFunction;

/**
 * Each refused call of the document, in states of several kinds: it returns its error, and nothing has
 * changed behind it. Questions change nothing either, whatever they answer.
 */
public final class RefusalsTest {
    private static final int INVALID = -1000000001;
    private static final int NOT_POSSIBLE = -1000000002;
    private static final int LIMIT = -1000000003;
    private static final int NOT_FOUND = -1000000004;
    private static final int ANY = 0;

    private static final Due DUE = new Due("RefusalsTest");

    private record State(String name, Supplier<LagoonGates> made) {
    }

    private static final State NEW = new State("new", LagoonGates::new);
    private static final State BUSY = new State("busy", RefusalsTest::busy);
    private static final State LATE = new State("late", RefusalsTest::late);
    private static final State SILTED = new State("silted", RefusalsTest::silted);
    private static final State WRITTEN = new State("written", RefusalsTest::written);
    private static final State[] ALL = {NEW, BUSY, LATE, SILTED, WRITTEN};

    public static void main(String[] args) {
        sightsTellStatesApart();
        oneArgumentOutOfItsRange();
        twoArgumentsOutOfTheirRanges();
        notPossible();
        limitReached();
        notFound();
        playWithAFault();
        changesBehindARefusal();
        questionsChangeNothing();
        DUE.end();
    }

    // ---- states

    /** All is in use, the history is full, and the text is an order that has not ended. */
    private static LagoonGates busy() {
        LagoonGates x = new LagoonGates();
        x.set(0, 50);
        x.set(1, 300);
        x.set(2, 700);
        x.gates(3);
        x.turbines(4);
        x.run(200);
        x.birds(60, 80);
        x.pump(-123);
        x.run(77);
        Lagoons.type(x, "g5;r9;t1");
        return x;
    }

    /** The last time is there. */
    private static LagoonGates late() {
        LagoonGates x = Lagoons.at(9900);
        x.turbines(2);
        x.run(60);
        x.gates(7);
        x.run(39);
        Lagoons.type(x, "t3");
        return x;
    }

    private static LagoonGates silted() {
        LagoonGates x = Lagoons.silted();
        x.dredge(500);
        x.pump(321);
        Lagoons.type(x, "q500;r30;p1");
        return x;
    }

    /** A text of 60 characters, and two states in the history. */
    private static LagoonGates written() {
        LagoonGates x = new LagoonGates();
        x.gates(2);
        x.run(30);
        Lagoons.type(x, "r1;".repeat(18) + "t2;g4;");
        return x;
    }

    /** Without this no difference would be seen. */
    private static void sightsTellStatesApart() {
        for (State one : ALL) {
            for (State other : ALL) {
                String seen = Sight.difference(Sight.of(one.made.get()), Sight.of(other.made.get()));
                DUE.holds(one.name + " as against " + other.name, seen.isEmpty() == (one == other));
            }
        }
        differs("gates(1)", x -> x.gates(1));
        differs("turbines(1)", x -> x.turbines(1));
        differs("pump(1)", x -> x.pump(1));
        differs("birds(100, 101)", x -> x.birds(100, 101));
        differs("run(1)", x -> x.run(1));
        differs("dredge(1)", x -> x.dredge(1));
        differs("set(0, 99)", x -> x.set(0, 99));
        differs("set(1, 99)", x -> x.set(1, 99));
        differs("set(2, 99)", x -> x.set(2, 99));
        differs("gates(3), as it is", x -> x.gates(3));
        differs("undo()", LagoonGates::undo);
        differs("type('1')", x -> x.type('1'));
        differs("clearText()", LagoonGates::clearText);
    }

    private static void differs(String call, ToIntFunction<LagoonGates> called) {
        LagoonGates x = busy();
        called.applyAsInt(x);
        DUE.holds(call + " is seen", !Sight.difference(Sight.of(busy()), Sight.of(x)).isEmpty());
    }

    // ---- what is refused

    /** The call answers what is due, and its lagoon is like one on which nothing was called. */
    private static void unchanged(State state, String call, int due, ToIntFunction<LagoonGates> called) {
        LagoonGates x = state.made.get();
        int answer = called.applyAsInt(x);
        if (due != ANY) {
            DUE.is(call + ", " + state.name, answer, due);
        }
        String seen = Sight.difference(Sight.of(state.made.get()), Sight.of(x));
        DUE.holds("changed behind " + call + ", " + state.name + ": " + seen, seen.isEmpty());
    }

    private interface One {
        int answer(LagoonGates x, int argument);
    }

    private static void outside(String call, int least, int most, One called) {
        int[] wrong = {least - 1, most + 1, Integer.MIN_VALUE, Integer.MAX_VALUE};
        for (State state : ALL) {
            for (int argument : wrong) {
                unchanged(state, call + " of " + argument, INVALID, x -> called.answer(x, argument));
            }
        }
    }

    private static void oneArgumentOutOfItsRange() {
        outside("gates", 0, 8, LagoonGates::gates);
        outside("turbines", 0, 6, LagoonGates::turbines);
        outside("pump", -500, 500, LagoonGates::pump);
        outside("run", 1, 300, LagoonGates::run);
        outside("dredge", 1, 20000, LagoonGates::dredge);
        outside("sea", 0, 9999, LagoonGates::sea);
        outside("now", 0, 12, LagoonGates::now);
        outside("next", 0, 6, LagoonGates::next);
        outside("seaAt", -400, 400, LagoonGates::seaAt);
        outside("count", 0, 22, LagoonGates::count);
        outside("count", 11, 18, LagoonGates::count);
        outside("type", 32, 126, LagoonGates::type);
        outside("fault", 0, 2, LagoonGates::fault);
    }

    private static void twoArgumentsOutOfTheirRanges() {
        outside("birds, from,", 0, 143, (x, from) -> x.birds(from, 100));
        outside("birds, to,", 0, 144, (x, to) -> x.birds(50, to));
        outside("birds, both,", 0, 144, (x, both) -> x.birds(both, both));
        outside("set, what,", 0, 2, (x, what) -> x.set(what, 100));
        outside("set 0", 1, 400, (x, value) -> x.set(0, value));
        outside("set 1", 0, 400, (x, value) -> x.set(1, value));
        outside("set 2", 1, 9999, (x, value) -> x.set(2, value));
        outside("record, what,", 0, 5, (x, what) -> x.record(0, what));
        outside("would, ticks,", 0, 300, (x, ticks) -> x.would(ticks, 1));
        outside("would, what,", 0, 3, (x, what) -> x.would(150, what));
        outside("best, ticks,", 1, 150, (x, ticks) -> x.best(ticks, 1));
        outside("best, what,", 0, 1, (x, what) -> x.best(75, what));
        outside("gatesFor, ticks,", 1, 150, (x, ticks) -> x.gatesFor(ticks, 100));
        outside("gatesFor, level,", -400, 600, (x, level) -> x.gatesFor(75, level));
        for (State state : ALL) {
            unchanged(state, "record of day -1", INVALID, x -> x.record(-1, 0));
            unchanged(state, "record of day -2147483648", INVALID, x -> x.record(Integer.MIN_VALUE, 0));
        }
    }

    private static void notPossible() {
        unchanged(NEW, "dredge(1) of none", NOT_POSSIBLE, x -> x.dredge(1));
        unchanged(NEW, "dredge(20000) of none", NOT_POSSIBLE, x -> x.dredge(20000));
        unchanged(SILTED, "dredge(19501) of 19500", NOT_POSSIBLE, x -> x.dredge(19501));
        unchanged(SILTED, "dredge(20000) of 19500", NOT_POSSIBLE, x -> x.dredge(20000));
        unchanged(NEW, "undo() of none", NOT_POSSIBLE, LagoonGates::undo);
        State undone = new State("undone", RefusalsTest::undone);
        unchanged(undone, "undo() of no more", NOT_POSSIBLE, LagoonGates::undo);
    }

    private static LagoonGates undone() {
        LagoonGates x = busy();
        for (int i = 0; i < 4; i++) {
            x.undo();
        }
        return x;
    }

    private static void limitReached() {
        unchanged(LATE, "run(1) at 9999", LIMIT, x -> x.run(1));
        unchanged(LATE, "run(300) at 9999", LIMIT, x -> x.run(300));
        State near = new State("near the last time", RefusalsTest::nearTheLastTime);
        unchanged(near, "run(61) at 9939", LIMIT, x -> x.run(61));
        unchanged(near, "run(300) at 9939", LIMIT, x -> x.run(300));
        unchanged(WRITTEN, "type(32) at 60", LIMIT, x -> x.type(32));
        unchanged(WRITTEN, "type('g') at 60", LIMIT, x -> x.type('g'));
        unchanged(WRITTEN, "type(126) at 60", LIMIT, x -> x.type(126));
    }

    private static LagoonGates nearTheLastTime() {
        LagoonGates x = Lagoons.at(9900);
        x.gates(1);
        x.turbines(5);
        x.run(39);
        return x;
    }

    private static void notFound() {
        unchanged(NEW, "record(0, 0)", NOT_FOUND, x -> x.record(0, 0));
        unchanged(NEW, "bestDay()", NOT_FOUND, LagoonGates::bestDay);
        unchanged(NEW, "share()", NOT_FOUND, LagoonGates::share);
        unchanged(NEW, "fault(0)", NOT_FOUND, x -> x.fault(0));
        unchanged(WRITTEN, "fault(0)", NOT_FOUND, x -> x.fault(0));
        unchanged(WRITTEN, "fault(1)", NOT_FOUND, x -> x.fault(1));
        unchanged(WRITTEN, "fault(2)", NOT_FOUND, x -> x.fault(2));
        for (State state : ALL) {
            unchanged(state, "seaAt(341)", NOT_FOUND, x -> x.seaAt(341));
            unchanged(state, "record of a day to come", NOT_FOUND, x -> x.record(70, 5));
        }
        unchanged(LATE, "record of a day that has gone", NOT_FOUND, x -> x.record(59, 0));
    }

    /** Whatever the orders ahead of the fault would have done is not done. */
    private static void playWithAFault() {
        String[] texts = {"g8", "x", "g8;t6;p500;b0,144;r300;q", "g8;t6;p500;b0,144;r300;g9;", "r300;r301;", "r1;r0;",
            "g1;".repeat(19) + "g9;"};
        for (String text : texts) {
            State early = new State("with the text " + text, () -> typed(busy(), text));
            unchanged(early, "play()", NOT_POSSIBLE, LagoonGates::play);
            for (int what = 0; what <= 2; what++) {
                int asked = what;
                unchanged(early, "fault(" + what + ")", ANY, x -> x.fault(asked));
            }
        }
        State late = new State("late with 61 ticks", () -> typed(nearTheLastTime(), "g8;r60;t1;r1;"));
        unchanged(late, "play()", NOT_POSSIBLE, LagoonGates::play);
        unchanged(late, "fault(2)", LIMIT, x -> x.fault(2));
    }

    /** A change behind a refused play is what it is without it. */
    private static void changesBehindARefusal() {
        State refused = new State("with orders ahead of a fault", () -> typed(busy(), "g8;t6;p500;b0,144;r300;g9;"));
        for (int which = 0; which < 8; which++) {
            LagoonGates plain = refused.made.get();
            LagoonGates behind = refused.made.get();
            DUE.is("play() of a fault", behind.play(), NOT_POSSIBLE);
            DUE.is("change " + which, change(behind, which), change(plain, which));
            String seen = Sight.difference(Sight.of(plain), Sight.of(behind));
            DUE.holds("change " + which + " behind a refused play: " + seen, seen.isEmpty());
        }
    }

    private static int change(LagoonGates x, int which) {
        switch (which) {
            case 0:
                return x.gates(1);
            case 1:
                return x.turbines(1);
            case 2:
                return x.pump(1);
            case 3:
                return x.birds(1, 100);
            case 4:
                return x.run(1);
            case 5:
                return x.dredge(1);
            case 6:
                return x.set(1, 1);
            default:
                x.clearText();
                return x.play();
        }
    }

    private static LagoonGates typed(LagoonGates x, String text) {
        Lagoons.type(x, text);
        return x;
    }

    private static void questionsChangeNothing() {
        for (State state : ALL) {
            unchanged(state, "sea", ANY, x -> x.sea(0) + x.sea(9999));
            unchanged(state, "now", ANY, x -> x.now(0) + x.now(5) + x.now(12));
            unchanged(state, "record", ANY, x -> x.record(0, 0) + x.record(25, 5));
            unchanged(state, "next", ANY, x -> x.next(0) + x.next(6));
            unchanged(state, "would", ANY, x -> x.would(0, 0) + x.would(1, 1) + x.would(300, 3));
            unchanged(state, "seaAt", ANY, x -> x.seaAt(-400) + x.seaAt(340));
            unchanged(state, "best", ANY, x -> x.best(1, 0) + x.best(150, 1));
            unchanged(state, "gatesFor", ANY, x -> x.gatesFor(1, -400) + x.gatesFor(150, 600));
            unchanged(state, "bestDay", ANY, LagoonGates::bestDay);
            unchanged(state, "share", ANY, LagoonGates::share);
            unchanged(state, "count", ANY, x -> x.count(0) + x.count(9) + x.count(22));
            unchanged(state, "fault", ANY, x -> x.fault(0) + x.fault(1) + x.fault(2));
        }
    }
}
