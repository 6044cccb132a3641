/** Counts answers that are not as due, and ends a test with exit code 1 if there was one. */
final class Check {
    private int looked;
    private int wrong;
    private String about = "";

    /** What the answers to come are about: printed ahead of each that is not as due. */
    void about(String what) {
        about = what + ": ";
    }

    void due(String what, long got, long want) {
        looked++;
        if (got != want) {
            wrong++;
            System.out.println(about + what + ": answered " + got + ", due is " + want);
        }
    }

    void holds(String what, boolean it) {
        looked++;
        if (!it) {
            wrong++;
            System.out.println(about + what + ": does not hold");
        }
    }

    int looked() {
        return looked;
    }

    boolean isClean() {
        return wrong == 0;
    }

    void end() {
        System.out.println(looked + " answers looked at, " + wrong + " not as due");
        if (wrong != 0) {
            System.exit(1);
        }
    }
}
