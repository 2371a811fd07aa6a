/** Counts the answers of a test that are not the ones that are due, and prints them. */
final class Due {
    private final String test;
    private int asked;
    private int wrong;

    Due(String test) {
        this.test = test;
    }

    void is(String call, long got, long want) {
        asked++;
        if (got != want) {
            miss(call + " answered " + got + ", due is " + want);
        }
    }

    void is(String what, String got, String want) {
        asked++;
        if (!got.equals(want)) {
            miss(what + " is " + got + ", due is " + want);
        }
    }

    void holds(String what, boolean held) {
        asked++;
        if (!held) {
            miss(what);
        }
    }

    private void miss(String words) {
        wrong++;
        System.out.println(test + ": " + words);
    }

    int wrong() {
        return wrong;
    }

    /** Ends the program: with exit code 1 if an answer was wrong, or if none was asked for. */
    void end() {
        System.out.println(test + ": " + asked + " asked, " + wrong + " wrong");
        if (wrong != 0 || asked == 0) {
            System.exit(1);
        }
    }
}
