/** Counts and prints the answers of one test that are not as due. */
final class Checks {
    private String sentence = "";
    private int made;
    private int wrong;

    /** The sentence of the document that the checks behind this one hold to. */
    void says(String sentence) {
        this.sentence = "'" + sentence + "': ";
    }

    void due(String call, long got, long want) {
        made++;
        if (got == want) return;
        wrong++;
        System.out.println(sentence + call + " answered " + got + ", due is " + want);
    }

    void holds(String what, boolean isTrue) {
        due(what, isTrue ? 1 : 0, 1);
    }

    int wrong() {
        return wrong;
    }

    void end() {
        System.out.println(made + " checks, " + wrong + " wrong");
        if (wrong != 0 || made == 0) System.exit(1);
    }
}
