/** Counts the answers of a test, and prints those that are not the ones that are due. */
final class Due {
    private String sentence = "";
    private int right = 0;
    private int wrong = 0;

    /** Names the sentence of the document that the next answers are asked for. */
    void says(String words) {
        sentence = words;
    }

    void is(String what, long got, long want) {
        tell(what, got == want, got, want);
    }

    void is(String what, double got, double want) {
        tell(what, got == want, got, want);
    }

    void is(String what, boolean got, boolean want) {
        tell(what, got == want, got, want);
    }

    void is(String what, String got, String want) {
        tell(what, got.equals(want), got, want);
    }

    boolean isAllRight() {
        return wrong == 0;
    }

    /** Ends the program, with 1 if an answer was wrong. */
    void finish(String test) {
        System.out.println(test + ": " + right + " answers as due, " + wrong + " not");
        System.exit(wrong == 0 && right > 0 ? 0 : 1);
    }

    private void tell(String what, boolean isRight, Object got, Object want) {
        if (isRight) {
            right++;
            return;
        }
        wrong++;
        System.out.println(what + " answered " + got + ", due is " + want
            + (sentence.isEmpty() ? "" : " -- " + sentence));
    }
}
