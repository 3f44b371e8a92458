/** Counts the answers that are not as due, and ends a test with the exit code for that. */
final class Check {
    private final String test;
    private int checked = 0;
    private int wrong = 0;

    Check(String test) {
        this.test = test;
    }

    void due(String call, long answer, long due) {
        checked++;
        if (answer != due) {
            fail(call + " answered " + answer + ", due is " + due);
        }
    }

    void due(String call, String answer, String due) {
        checked++;
        if (!answer.equals(due)) {
            fail(call + "\n  answered " + answer + "\n  due is   " + due);
        }
    }

    void holds(String what, boolean holds) {
        checked++;
        if (!holds) {
            fail(what + " does not hold");
        }
    }

    private void fail(String message) {
        wrong++;
        if (wrong <= 40) {
            System.out.println(test + ": " + message);
        }
    }

    void end() {
        System.out.println(test + ": " + checked + " answers looked at, " + wrong + " not as due");
        if (wrong != 0 || checked == 0) {
            System.exit(1);
        }
    }
}
