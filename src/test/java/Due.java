/** Compares answers with what is due, prints those that differ, and ends a test with its verdict. */
final class Due {
    private final String test;
    private int looked;
    private int wrong;

    Due(String test) {
        this.test = test;
    }

    void is(String call, long got, long due) {
        looked++;
        if (got != due) {
            wrong++;
            System.out.println(test + ": " + call + " answered " + got + ", due is " + due);
        }
    }

    void holds(String what, boolean holds) {
        looked++;
        if (!holds) {
            wrong++;
            System.out.println(test + ": " + what);
        }
    }

    int wrong() {
        return wrong;
    }

    void end() {
        System.out.println(test + ": " + looked + " looked at, " + wrong + " wrong");
        if (wrong != 0 || looked == 0) {
            System.exit(1);
        }
    }
}
