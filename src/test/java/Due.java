/** Compares answers with what is due, prints those that differ, and ends a test with its verdict. */
final class Due {
    private final String test;
    private int looked;
    private int wrong;

    Due(String test) {
        this.test = test;
    }

    void is(String call, long got, long due) {
        looked++;
        if (got != due) {
            wrong++;
            System.out.println(test + ": " + call + " answered " + got + ", due is " + due);
        }
    }

    /** Several answers of now(..), each what with what is due: what, due, what, due, .. */
    void now(String when, LagoonGates x, int... rows) {
        for (int i = 0; i < rows.length; i += 2) {
            is("now(" + rows[i] + "), " + when, x.now(rows[i]), rows[i + 1]);
        }
    }

    /** The answers of next(0), next(1) .. */
    void next(String when, LagoonGates x, int... due) {
        for (int what = 0; what < due.length; what++) {
            is("next(" + what + "), " + when, x.next(what), due[what]);
        }
    }

    void holds(String what, boolean holds) {
        looked++;
        if (!holds) {
            wrong++;
            System.out.println(test + ": " + what);
        }
    }

    int wrong() {
        return wrong;
    }

    void end() {
        System.out.println(test + ": " + looked + " looked at, " + wrong + " wrong");
        if (wrong != 0 || looked == 0) {
            System.exit(1);
        }
    }
}
