/** Compares answers with those that are due, and ends the test with exit code 1 if one was wrong. */
final class Due {
    private final String test;
    private int asked;
    private int wrong;

    Due(String test) {
        this.test = test;
    }

    void is(String what, long got, long want) {
        asked++;
        if (got != want) {
            wrong++;
            if (wrong <= 50) {
                System.out.println(test + ": " + what + " answered " + got + ", due is " + want);
            }
        }
    }

    void is(String what, boolean got, boolean want) {
        is(what, got ? 1L : 0L, want ? 1L : 0L);
    }

    void is(String what, String got, String want) {
        is(what + ": [" + got + "] for [" + want + "]", got.equals(want), true);
    }

    void end() {
        if (asked == 0) {
            System.out.println(test + ": asked nothing");
            System.exit(1);
        }
        System.out.println(test + ": " + asked + " answers, " + wrong + " wrong");
        if (wrong != 0) {
            System.exit(1);
        }
    }
}
