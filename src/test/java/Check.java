/** Counts the answers that are not the ones due, and tells them. */
final class Check {
    private final String name;
    private int looked = 0;
    private int wrong = 0;

    Check(String name) {
        this.name = name;
    }

    void due(String what, int got, int want) {
        looked++;
        if (got != want) {
            wrong++;
            System.out.println(name + ": " + what + " answered " + got + ", due is " + want);
        }
    }

    void holds(String what, boolean is) {
        looked++;
        if (!is) {
            wrong++;
            System.out.println(name + ": " + what + " does not hold");
        }
    }

    boolean tooManyWrong() {
        return wrong > 20;
    }

    void end() {
        System.out.println(name + ": " + looked + " looked at, " + wrong + " wrong");
        if (wrong != 0) {
            System.exit(1);
        }
    }
}
