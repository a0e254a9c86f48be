/** Compares answers with those that are due, and keeps count of the wrong ones. */
final class Checks {
    private int done = 0;
    private int wrong = 0;

    void same(String what, long due, long got) {
        done++;
        if (due != got) {
            tell(what + " answered " + got + ", due is " + due);
        }
    }

    void same(String what, boolean due, boolean got) {
        same(what, due ? 1 : 0, got ? 1 : 0);
    }

    void same(String what, String due, String got) {
        done++;
        if (!due.equals(got)) {
            tell(what + " answered " + got + ", due is " + due);
        }
    }

    void fails(String what, Class<? extends RuntimeException> due, Runnable call) {
        done++;
        try {
            call.run();
            tell(what + " threw nothing, due is " + due.getSimpleName());
        } catch (RuntimeException e) {
            if (e.getClass() != due) {
                tell(what + " threw " + e.getClass().getSimpleName() + ", due is " + due.getSimpleName());
            }
        }
    }

    boolean clean() {
        return wrong == 0;
    }

    /** Ends the program with exit code 1 if an answer was wrong. */
    void finish() {
        System.out.println(done + " checks, " + wrong + " wrong");
        if (wrong > 0) {
            System.exit(1);
        }
    }

    private void tell(String fault) {
        wrong++;
        System.out.println(fault);
    }
}
