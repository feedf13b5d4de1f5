/** Counts the answers that are not as due. */
final class Due {
    private int wrong = 0;
    private int asked = 0;
    private String sentence = "";

    /** The words of the document that the next answers hang on. */
    void says(String words) {
        sentence = words;
    }

    /** The answer of the last call. */
    void is(long got, long want) {
        is("'" + sentence + "': " + Run.last(), got, want);
    }

    void is(String call, long got, long want) {
        asked++;
        if (got != want) {
            wrong++;
            System.out.println(call + " answered " + got + ", due is " + want);
        }
    }

    void end(String name) {
        System.out.println(name + ": " + asked + " answers, " + wrong + " not as due");
        if (wrong != 0) {
            System.exit(1);
        }
    }

    int wrong() {
        return wrong;
    }
}
