/** Counts and prints the answers that are not as due, as the tests under ../shared/tests do. */
final class Due {
    private final String test;
    private String sentence = "";
    private int sentences;
    private int askedBefore;
    private int asked;
    private int wrong;

    Due(String test) {
        this.test = test;
    }

    /** Begins the test of a sentence of the document. */
    void sentence(String words) {
        endSentence();
        sentence = " \"" + words + "\"";
        sentences++;
        askedBefore = asked;
    }

    private void endSentence() {
        if (sentences > 0 && asked == askedBefore) {
            wrong("nothing is asked");
        }
    }

    void is(String call, long got, long want) {
        asked++;
        if (got != want) {
            wrong(call + " answered " + got + ", due is " + want);
        }
    }

    void is(String what, String got, String want) {
        asked++;
        if (!got.equals(want)) {
            wrong(what + " is '" + got + "', due is '" + want + "'");
        }
    }

    void holds(String what, boolean so) {
        is(what, so ? 1 : 0, 1);
    }

    private void wrong(String what) {
        wrong++;
        if (wrong <= 50) {
            System.out.println(test + sentence + ": " + what);
        }
    }

    void end() {
        endSentence();
        String of = sentences == 0 ? "" : " of " + sentences + " sentences";
        System.out.println(test + ": " + asked + " answers" + of + ", " + wrong + " not as due");
        if (wrong != 0) {
            System.exit(1);
        }
    }
}
