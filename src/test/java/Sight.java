import java.util.ArrayList;
import java.util.List;

/**
 * All that the answers of a lagoon tell of it, its history and its text among them, in some 400 calls.
 * What has been looked at is changed by it: two lagoons made alike are compared by their sights.
 */
final class Sight {
    private final LagoonGates lagoon;
    private final List<String> calls = new ArrayList<>();
    private final List<Integer> answers = new ArrayList<>();

    private Sight(LagoonGates lagoon) {
        this.lagoon = lagoon;
    }

    static Sight of(LagoonGates lagoon) {
        Sight sight = new Sight(lagoon);
        sight.present();
        sight.ahead();
        sight.text("as it is");
        sight.history();
        sight.goOn();
        return sight;
    }

    /** The first call that they answer differently; empty if there is none. */
    static String difference(Sight one, Sight other) {
        for (int i = 0; i < Math.min(one.answers.size(), other.answers.size()); i++) {
            if (!one.answers.get(i).equals(other.answers.get(i))) {
                return one.calls.get(i) + ": " + one.answers.get(i) + " and " + other.answers.get(i);
            }
        }
        return one.answers.size() == other.answers.size() ? "" : "more states in the history";
    }

    private void saw(String call, int answer) {
        calls.add(call);
        answers.add(answer);
    }

    private void state(String when) {
        for (int what = 0; what <= 12; what++) {
            saw("now(" + what + ") " + when, lagoon.now(what));
        }
        for (int what = 0; what <= 9; what++) {
            saw("count(" + what + ") " + when, lagoon.count(what));
        }
        for (int what = 20; what <= 22; what++) {
            saw("count(" + what + ") " + when, lagoon.count(what));
        }
        for (int what = 0; what <= 6; what++) {
            saw("next(" + what + ") " + when, lagoon.next(what));
        }
        saw("bestDay() " + when, lagoon.bestDay());
        saw("share() " + when, lagoon.share());
    }

    private void present() {
        state("now");
        int today = lagoon.now(1);
        for (int day = Math.max(0, today - 10); day <= today; day++) {
            for (int what = 0; what <= 5; what++) {
                saw("record(" + day + ", " + what + ")", lagoon.record(day, what));
            }
        }
    }

    private void ahead() {
        // 145 ticks cross all hours of birds.
        for (int what = 0; what <= 3; what++) {
            saw("would(145, " + what + ")", lagoon.would(145, what));
        }
        saw("seaAt(200)", lagoon.seaAt(200));
        saw("best(20, 1)", lagoon.best(20, 1));
        saw("gatesFor(20, 50)", lagoon.gatesFor(20, 50));
    }

    private void text(String when) {
        for (int what = 0; what <= 2; what++) {
            saw("fault(" + what + ") of the text " + when, lagoon.fault(what));
        }
    }

    private void history() {
        for (int left = lagoon.count(8); left > 0; left--) {
            saw("undo()", lagoon.undo());
            state("behind undo() to " + (left - 1));
        }
        saw("undo() of none", lagoon.undo());
    }

    /** The text is ended and played, a tick passes, and the text is emptied. */
    private void goOn() {
        saw("type(';')", lagoon.type(';'));
        text("with its end");
        saw("play()", lagoon.play());
        saw("run(1)", lagoon.run(1));
        state("behind run(1)");
        saw("clearText()", lagoon.clearText());
        text("emptied");
    }
}
