/** Counts the answers that are not as due, and tells them, some of each case. */
final class Check {
    private static final int TOLD_OF_A_CASE = 5;

    private int right;
    private int wrong;
    private int told;
    private String about = "";

    /** The case, or the sentence of the document, that the answers from now on are about. */
    void about(String what) {
        about = what;
        told = 0;
    }

    /** Runs the cases one behind the other; one that throws is wrong, and the others run all the same. */
    void each(Runnable... cases) {
        for (Runnable one : cases) {
            try {
                one.run();
            } catch (RuntimeException thrown) {
                tell("threw " + thrown);
            }
        }
    }

    void due(String call, long got, long want) {
        if (got == want) {
            right++;
        } else {
            tell(call + " answered " + got + ", due is " + want);
        }
    }

    void isTrue(String what, boolean holds) {
        due(what, holds ? 1 : 0, 1);
    }

    private void tell(String what) {
        wrong++;
        told++;
        if (told <= TOLD_OF_A_CASE) {
            System.out.println(about + ": " + what);
        }
    }

    int wrong() {
        return wrong;
    }

    void end() {
        System.out.println(right + " as due, " + wrong + " not as due");
        if (wrong > 0 || right == 0) {
            System.exit(1);
        }
    }
}
