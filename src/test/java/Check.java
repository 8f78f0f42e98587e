/** Counts the answers that are not as due, and tells them. */
final class Check {
    private int right;
    private int wrong;
    private String about = "";

    void about(String what) {
        about = what;
    }

    void due(String call, long got, long want) {
        if (got == want) {
            right++;
            return;
        }
        wrong++;
        if (wrong <= 40) {
            System.out.println(about + ": " + call + " answered " + got + ", due is " + want);
        }
    }

    void isTrue(String what, boolean holds) {
        due(what, holds ? 1 : 0, 1);
    }

    int wrong() {
        return wrong;
    }

    void end() {
        System.out.println(right + " as due, " + wrong + " not as due");
        if (wrong > 0 || right == 0) {
            System.exit(1);
        }
    }
}
