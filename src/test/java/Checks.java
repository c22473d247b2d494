/** Counts the answers that are not as due. */
final class Checks {
    private static final int MOST_PRINTED = 40;
    private final String name;
    private int seen;
    private int wrong;

    Checks(String name) {
        this.name = name;
    }

    boolean due(String call, long got, long want) {
        seen++;
        if (got == want) {
            return true;
        }
        wrong++;
        if (wrong <= MOST_PRINTED) {
            System.out.println(name + ": " + call + " answered " + got + ", due is " + want);
        }
        return false;
    }

    void holds(String what, boolean is) {
        due(what, is ? 1 : 0, 1);
    }

    boolean anyWrong() {
        return wrong > 0;
    }

    void end() {
        System.out.println(name + ": " + seen + " answers looked at, " + wrong + " wrong");
        if (wrong > 0) {
            System.exit(1);
        }
    }
}
