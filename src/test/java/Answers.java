/** Counts the answers of a test that are not as due, and tells each. */
final class Answers {
    private final String test;
    private int seen = 0;
    private int wrong = 0;

    Answers(String test) {
        this.test = test;
    }

    void due(String what, long got, long want) {
        seen++;
        if (got == want) return;
        wrong++;
        System.out.println(what + " answered " + got + ", due is " + want);
    }

    void isSo(String what, boolean so) {
        due(what, so ? 1 : 0, 1);
    }

    boolean anyWrong() {
        return wrong > 0;
    }

    void end() {
        System.out.println(test + ": " + seen + " answers, " + wrong + " not as due");
        if (wrong > 0 || seen == 0) System.exit(1);
    }
}
