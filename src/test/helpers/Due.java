/** Compares answers with those that are due, and ends the program with 1 if one was wrong. */
final class Due {
    private static final int MOST_SHOWN = 40;

    private String sentence = "";
    private long compared = 0;
    private long wrong = 0;

    /** The document's words that the next answers are about; shown with those that are wrong. */
    void about(String words) {
        sentence = "[" + words + "] ";
    }

    void same(String call, long got, long want) {
        compared++;
        if (got == want) {
            return;
        }
        wrong++;
        if (wrong <= MOST_SHOWN) {
            System.out.println(sentence + call + " answered " + got + ", due is " + want);
        }
    }

    void same(String call, boolean got, boolean want) {
        same(call, got ? 1 : 0, want ? 1 : 0);
    }

    void yes(String what, boolean holds) {
        same(what, holds, true);
    }

    /** A chance() that is reckoned, and what above() and below() are behind it. */
    void fraction(MadeItSo x, int setting, int given, int deed, long above, long below) {
        String call = "chance(" + setting + ", " + given + ", " + deed + ")";
        same(call, x.chance(setting, given, deed), 1);
        same("above() behind " + call, x.above(), above);
        same("below() behind " + call, x.below(), below);
    }

    boolean anyWrong() {
        return wrong != 0;
    }

    long compared() {
        return compared;
    }

    void end() {
        System.out.println(compared + " answers compared, " + wrong + " not as due");
        if (wrong != 0) {
            System.exit(1);
        }
    }
}
