/** Counts answers that are not as due, and ends a test with exit code 1 if there was one. */
final class Check {
    private int looked;
    private int wrong;

    void due(String what, long got, long want) {
        looked++;
        if (got != want) {
            wrong++;
            System.out.println(what + ": answered " + got + ", due is " + want);
        }
    }

    void holds(String what, boolean it) {
        looked++;
        if (!it) {
            wrong++;
            System.out.println(what + ": does not hold");
        }
    }

    boolean isClean() {
        return wrong == 0;
    }

    void end() {
        System.out.println(looked + " answers looked at, " + wrong + " not as due");
        if (wrong != 0) {
            System.exit(1);
        }
    }
}
