/** Counts the answers that are not the ones due, and ends the test with exit code 1 if there was one. */
final class Due {
    private final String name;
    private int asked;
    private int wrong;

    Due(String name) {
        this.name = name;
    }

    void is(String call, long got, long want) {
        asked++;
        if (got != want) {
            wrong++;
            System.out.println(name + ": " + call + " answered " + got + ", due is " + want);
        }
    }

    void holds(String what, boolean so) {
        asked++;
        if (!so) {
            wrong++;
            System.out.println(name + ": " + what + " does not hold");
        }
    }

    void unknown(String call, long got) {
        is(call, got, HopMeet.UNKNOWN);
    }

    void outside(String call, long got) {
        is(call, got, HopMeet.OUTSIDE);
    }

    void not(String call, long got) {
        is(call, got, HopMeet.NOT);
    }

    void full(String call, long got) {
        is(call, got, HopMeet.FULL);
    }

    void end() {
        System.out.println(name + ": " + asked + " answers, " + wrong + " not as due");
        if (wrong != 0) {
            System.exit(1);
        }
    }
}
