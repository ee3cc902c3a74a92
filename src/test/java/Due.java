/** Counts the answers of a test, and prints those that are not the ones that are due. */
final class Due {
    private final String test;
    private int right = 0;
    private int wrong = 0;

    Due(String test) {
        this.test = test;
    }

    void is(String what, long got, long want) {
        tell(what, got == want, got, want);
    }

    void is(String what, double got, double want) {
        tell(what, got == want, got, want);
    }

    void is(String what, boolean got, boolean want) {
        tell(what, got == want, got, want);
    }

    void is(String what, String got, String want) {
        tell(what, got.equals(want), got, want);
    }

    boolean isAllRight() {
        return wrong == 0;
    }

    /** Ends the program, with 1 if an answer was wrong. */
    void finish() {
        System.out.println(test + ": " + right + " answers as due, " + wrong + " not");
        System.exit(wrong == 0 && right > 0 ? 0 : 1);
    }

    private void tell(String what, boolean isRight, Object got, Object want) {
        if (isRight) {
            right++;
        } else {
            wrong++;
            System.out.println(what + " answered " + got + ", due is " + want);
        }
    }
}
