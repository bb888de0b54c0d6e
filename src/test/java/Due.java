/** Holds answers against what is due, prints those that differ, and ends the program by that. */
final class Due {
    private final String test;
    private String sentence = "";
    private int sentences;
    private int looked;
    private int wrong;

    Due(String test) {
        this.test = test;
    }

    /** The sentence of the document that the answers from here on belong to. */
    void sentence(String where, String words) {
        sentence = " [" + where + ": \"" + words + "\"]";
        sentences++;
    }

    void is(String what, long got, long want) {
        looked++;
        if (got != want) {
            wrong++;
            System.out.println(test + sentence + ": " + what + " answered " + got + ", due is " + want);
        }
    }

    void holds(String what, boolean holds) {
        looked++;
        if (!holds) {
            wrong++;
            System.out.println(test + sentence + ": it does not hold that " + what);
        }
    }

    int wrong() {
        return wrong;
    }

    void end() {
        String told = sentences == 0 ? "" : sentences + " sentences, ";
        System.out.println(test + ": " + told + looked + " answers, " + wrong + " not as due");
        if (wrong != 0) {
            System.exit(1);
        }
    }
}
