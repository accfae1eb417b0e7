/** Counts and prints the answers that are not the ones that are due. */
final class Due {
    private int calls = 0;
    private int wrong = 0;

    void is(String call, long got, long want) {
        calls++;
        if (got != want) {
            wrong++;
            System.out.println(call + " answered " + got + ", due is " + want);
        }
    }

    void isTrue(String what, boolean got) {
        is(what, got ? 1 : 0, 1);
    }

    /** Ends the test with exit code 1 if an answer was wrong. */
    void end() {
        System.out.println(calls + " answers, " + wrong + " of them wrong");
        if (wrong != 0) {
            System.exit(1);
        }
    }
}
