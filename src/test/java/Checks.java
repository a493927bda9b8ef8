/** What a test needs: it counts the answers that are not due, and tells them. */
final class Checks {
    /** A call that may throw. */
    interface Call {
        void run();
    }

    private int wrong = 0;

    void same(String call, long got, long due) {
        if (got != due) {
            wrong++;
            System.out.println(call + " answered " + got + ", due is " + due);
        }
    }

    void same(String call, boolean got, boolean due) {
        if (got != due) {
            wrong++;
            System.out.println(call + " answered " + got + ", due is " + due);
        }
    }

    void fails(String call, Class<? extends RuntimeException> due, Call run) {
        try {
            run.run();
        } catch (RuntimeException thrown) {
            if (thrown.getClass() != due) {
                wrong++;
                System.out.println(call + " threw " + thrown + ", due is " + due.getName());
            }
            return;
        }
        wrong++;
        System.out.println(call + " threw nothing, due is " + due.getName());
    }

    void outside(String call, Call run) {
        fails(call, IndexOutOfBoundsException.class, run);
    }

    /** Ends the test; exit code 1 if an answer was wrong. */
    void end() {
        System.out.println(wrong == 0 ? "all answers are as due" : wrong + " answers are not as due");
        if (wrong != 0) {
            System.exit(1);
        }
    }
}
