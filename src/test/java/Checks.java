/** Counts and prints the answers that are not as due. */
final class Checks {
    private final String of;
    private int made = 0;
    private int wrong = 0;

    Checks(String of) {
        this.of = of;
    }

    void due(String what, long got, long want) {
        made++;
        if (got != want) {
            wrong++;
            System.out.println(of + ": " + what + " answered " + got + ", due is " + want);
        }
    }

    void holds(String what, boolean is) {
        due(what, is ? 1 : 0, 1);
    }

    /** Ends the program with 1, if an answer was wrong. */
    void end() {
        System.out.println(of + ": " + made + " checks, " + wrong + " wrong");
        if (wrong != 0 || made == 0) {
            System.exit(1);
        }
    }
}
