/** Compares answers with those that are due, and ends the program with 1 if one was wrong. */
final class Due {
    private static final int MOST_SHOWN = 40;

    private String sentence = "";
    private long compared = 0;
    private long wrong = 0;

    /** The document's words that the next answers are about; shown with those that are wrong. */
    void about(String words) {
        sentence = "[" + words + "] ";
    }

    void same(String call, long got, long want) {
        compared++;
        if (got == want) {
            return;
        }
        wrong++;
        if (wrong <= MOST_SHOWN) {
            System.out.println(sentence + call + " answered " + got + ", due is " + want);
        }
    }

    void same(String call, boolean got, boolean want) {
        same(call, got ? 1 : 0, want ? 1 : 0);
    }

    void yes(String what, boolean holds) {
        same(what, holds, true);
    }

    boolean anyWrong() {
        return wrong != 0;
    }

    long compared() {
        return compared;
    }

    void end() {
        System.out.println(compared + " answers compared, " + wrong + " not as due");
        if (wrong != 0) {
            System.exit(1);
        }
    }
}
