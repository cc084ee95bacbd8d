import java.util.ArrayList;
import java.util.List;

/**
 * What an object with a history of calls answers to all that can be asked. No object gets more than the 512
 * calls that the document allows: when one is used up, another with the same history goes on.
 */
final class Answers {
    private static final int MOST_CALLS = 512;

    private Answers() {
    }

    static long[] of(List<Call> history, List<Call> questions) {
        long[] answers = new long[questions.size()];
        MadeItSo x = null;
        int calls = 0;
        for (int i = 0; i < answers.length; i++) {
            Call question = questions.get(i);
            // above() and below() are asked of the object that got the chance() ahead of them
            boolean ofThisObject = question.is("above") || question.is("below");
            if (x == null || calls > MOST_CALLS - 3 && !ofThisObject) {
                x = after(history);
                calls = history.size();
            }
            answers[i] = question.on(x);
            calls++;
        }
        return answers;
    }

    static MadeItSo after(List<Call> history) {
        if (history.size() >= MOST_CALLS) {
            throw new IllegalArgumentException("a history of " + history.size() + " calls");
        }
        MadeItSo x = new MadeItSo();
        for (Call call : history) {
            call.on(x);
        }
        return x;
    }

    /** above() and below() come first, as a chance() that is asked changes what they are. */
    static List<Call> questions(int things) {
        List<Call> all = new ArrayList<>(Call.all("above()", "below()", "alike()"));
        books(all);
        weights(all, things);
        for (int a = -1; a <= things; a++) {
            for (int b = -1; b <= things; b++) {
                pairs(all, things, a, b);
            }
        }
        return all;
    }

    private static void books(List<Call> all) {
        for (int what = -1; what <= 4; what++) {
            all.add(Call.of("count", what));
            for (int k = -1; k <= Made.MOST; k++) {
                all.add(Call.of("told", k, what));
            }
        }
        for (int k = -1; k <= Made.MOST; k++) {
            for (int row = -1; row <= 128; row++) {
                all.add(Call.of("booked", k, row));
            }
        }
    }

    private static void weights(List<Call> all, int things) {
        int heap = Made.all(things);
        for (int ones = 0; ones <= heap; ones++) {
            all.add(Call.of("weight", heap | ones << 8, 0));
        }
        for (int k = 0; k <= things; k++) {
            int one = Made.is(k, 1);
            all.add(Call.of("weight", one, 0));
            all.add(Call.of("weight", heap, one));
            all.add(Call.of("weight", Made.is(0, 1), one));
            all.add(Call.of("chance", one, Made.is(1, 1), 0));
            all.add(Call.of("above"));
            all.add(Call.of("below"));
            all.add(Call.of("draw", 77 * k, 0));
            all.add(Call.of("draw", -k, one));
        }
    }

    private static void pairs(List<Call> all, int things, int a, int b) {
        int rest = Made.all(things) & ~(a < 0 ? 0 : 1 << a) & ~(b < 0 ? 0 : 1 << b);
        all.add(Call.of("least", a, b));
        all.add(Call.of("leastAt", a, b, 0));
        all.add(Call.of("leastAt", a, b, 1));
        all.add(Call.of("fixed", a, b));
        for (int z : new int[] {0, rest, rest & 85, rest & 8}) {
            all.add(Call.of("bars", 1 << Math.max(0, a), 1 << Math.max(0, b), z));
            all.add(Call.of("fit", a, b, z));
            all.add(Call.of("agrees", a, b, z, 1, 0));
        }
        for (int what = 0; what < 5; what++) {
            all.add(Call.of("otherwise", a, b, what));
        }
    }
}
