import java.util.ArrayList;
import java.util.List;

/**
 * "What is refused changes nothing.": behind each refused call every other call answers as it would have
 * without it, those that change something among them. Only above() and below() are 0 and 1 behind a chance()
 * that answers 0 or NONE. What is merely asked changes nothing, either.
 */
public final class RefusedTest {
    private static final String FALSE_OR_ZERO = "0";
    private static final Due due = new Due();

    public static void main(String[] args) {
        due.about("What is refused changes nothing.");
        new RefusedTest("nothing", 0, EMPTY, CHANGES_EMPTY).all(REFUSED_EMPTY);
        new RefusedTest("one", 1, ONE, CHANGES_ONE).all(REFUSED_ONE);
        RefusedTest five = new RefusedTest("five", 5, FIVE, CHANGES_FIVE);
        five.all(REFUSED_FIVE);
        five.asked(ASKED);
        RefusedTest full = new RefusedTest("full", 8, full(), CHANGES_FULL);
        full.all(REFUSED_FULL);
        full.asked(ASKED);
        due.end();
    }

    private static final String[] EMPTY = {"chance(0, 0, 0)"};
    private static final String[] CHANGES_EMPTY = {"thing(true)", "thing(false)", "chance(0, 0, 0)"};
    private static final String[] REFUSED_EMPTY = {
        "arrow(0, 0)", "arrow(0, 1)", "arrow(-1, 0)",
        "cut(0, 0)", "cut(0, 1)", "cut(-1, 0)",
        "turn(0, 0)", "turn(0, 1)", "turn(-1, 0)",
        "book(0, 0, 50)", "book(0, 0, 7)", "book(-1, 0, 7)", "book(0, -1, 7)",
        "booked(0, 0) -1", "booked(-1, 0) -1",
        "told(0, 0) -1", "told(-1, 3) -1", "told(0, 4) -1",
        "weight(1, 0) -1", "weight(0, 1) -1", "weight(256, 0) -1", "weight(-1, -1) -1",
        "chance(1, 0, 0) -1", "chance(0, 1, 0) -1", "chance(0, 0, 1) -1", "chance(-1, -1, -1) -1",
        "bars(1, 0, 0)", "bars(0, 1, 0)", "bars(0, 0, 1)", "bars(-1, -1, -1)",
        "least(0, 1) -1", "least(0, 0) -1", "leastAt(0, 1, 0) -1", "leastAt(0, 0, 0) -1",
        "fit(0, 1, 0)", "fit(0, 0, 0)",
        "agrees(0, 1, 0, 1, 1) -1", "agrees(0, 0, 0, 0, 0) -1",
        "fixed(0, 1)", "fixed(0, 0)",
        "otherwise(0, 1, 0) -1", "otherwise(0, 1, 5) -1",
        "draw(1, 1) -1", "draw(1, 256) -1", "draw(1, -1) -1",
        "count(-1) -1", "count(3) -1"
    };

    private static final String[] ONE = {"thing(false)", "book(0, 0, 30)", "chance(257, 0, 0)"};
    private static final String[] CHANGES_ONE = {"thing(true)", "book(0, 0, 100)", "chance(1, 0, 0)"};
    private static final String[] REFUSED_ONE = {
        "arrow(0, 0)", "arrow(0, 1)", "arrow(1, 0)", "arrow(0, -1)",
        "cut(0, 0)", "cut(0, 1)", "cut(1, 0)",
        "turn(0, 0)", "turn(0, 1)", "turn(1, 0)",
        "book(0, 1, 7)", "book(0, -1, 7)", "book(1, 0, 7)", "book(-1, 0, 7)", "book(0, 0, 101)", "book(0, 0, -1)",
        "booked(0, 1) -1", "booked(1, 0) -1",
        "told(1, 0) -1", "told(0, 4) -1", "told(0, -1) -1",
        "weight(2, 0) -1", "weight(256, 0) -1", "weight(0, 2) -1", "weight(0, 65536) -1",
        "chance(2, 0, 0) -1", "chance(0, 256, 0) -1", "chance(0, 0, 2) -1", "chance(257, 1, 257) 0",
        "bars(1, 1, 0)", "bars(2, 0, 0)", "bars(1, 0, 1)", "bars(0, 1, 1)",
        "least(0, 0) -1", "least(0, 1) -1", "leastAt(0, 0, 0) -1",
        "fit(0, 0, 0)", "fit(0, 1, 0)", "agrees(0, 1, 0, 1, 1) -1", "agrees(0, 0, 1, 1, 1) -1",
        "fixed(0, 0)", "otherwise(0, 0, 0) -1", "draw(1, 2) -1", "draw(1, 256) -1", "count(3) -1"
    };

    /** 0 to 1 to 2, 0 to 2, and 3 to 2; 3 is not SEEN, 4 is apart and always 1; the latest chance is 27 of 41. */
    private static final String[] FIVE = {
        "thing(true)", "thing(true)", "thing(true)", "thing(false)", "thing(true)",
        "arrow(0, 1)", "arrow(1, 2)", "arrow(0, 2)", "arrow(3, 2)",
        "book(0, 0, 30)", "book(1, 0, 20)", "book(1, 1, 90)", "book(3, 0, 15)", "book(4, 0, 100)",
        "book(2, 0, 1)", "book(2, 1, 12)", "book(2, 2, 23)", "book(2, 3, 34)",
        "book(2, 4, 45)", "book(2, 5, 56)", "book(2, 6, 67)", "book(2, 7, 78)",
        "chance(257, 514, 0)"
    };
    private static final String[] CHANGES_FIVE = {
        "thing(true)", "arrow(4, 2)", "arrow(2, 4)", "arrow(0, 3)", "cut(0, 2)", "cut(3, 2)", "turn(3, 2)",
        "turn(1, 2)", "turn(0, 1)", "book(2, 7, 0)", "book(4, 0, 50)", "chance(257, 0, 0)"
    };
    private static final String[] REFUSED_FIVE = {
        // no such THING, both are one, one between them already, it would lead round
        "arrow(-1, 0)", "arrow(0, -1)", "arrow(5, 0)", "arrow(0, 5)", "arrow(2, 2)", "arrow(4, 4)",
        "arrow(0, 1)", "arrow(1, 0)", "arrow(3, 2)", "arrow(2, 3)", "arrow(2, 0)", "arrow(8, 32)",
        // none such
        "cut(-1, 0)", "cut(0, 5)", "cut(1, 0)", "cut(2, 0)", "cut(0, 3)", "cut(4, 4)", "cut(0, 33)",
        // none such, or it would lead round
        "turn(0, 2)", "turn(2, 0)", "turn(1, 0)", "turn(0, 3)", "turn(-1, 0)", "turn(0, 5)", "turn(2, 2)", "turn(0, 33)",
        // no such THING or ROW, parts too few or too many
        "book(-1, 0, 7)", "book(5, 0, 7)", "book(2, -1, 7)", "book(2, 8, 7)", "book(0, 1, 7)", "book(1, 2, 7)",
        "book(2, 7, -1)", "book(2, 7, 101)", "book(0, 0, 101)", "book(0, 0, -2147483648)", "book(2, 128, 7)",
        "booked(-1, 0) -1", "booked(5, 0) -1", "booked(2, -1) -1", "booked(2, 8) -1",
        "told(-1, 0) -1", "told(5, 0) -1", "told(0, -1) -1", "told(0, 4) -1",
        "weight(32, 0) -1", "weight(256, 0) -1", "weight(-1, 0) -1", "weight(0, 32) -1", "weight(0, 512) -1",
        // the one given has WEIGHT 0: 4 is never 0; or the DEED says otherwise
        "chance(257, 16, 0) 0", "chance(0, 16, 0) 0", "chance(257, 1, 257) 0",
        "chance(32, 0, 0) -1", "chance(0, 32, 0) -1", "chance(0, 0, 32) -1", "chance(256, 16, 0) -1", "chance(0, -1, 0) -1",
        "bars(32, 0, 0)", "bars(0, 32, 0)", "bars(0, 0, 32)", "bars(1, 1, 0)", "bars(1, 2, 1)", "bars(1, 2, 2)", "bars(-1, 0, 0)",
        "least(0, 0) -1", "least(-1, 0) -1", "least(0, 5) -1",
        "leastAt(0, 3, -1) -1", "leastAt(0, 3, 1) -1", "leastAt(0, 1, 0) -1", "leastAt(0, 0, 0) -1", "leastAt(0, 5, 0) -1",
        "fit(0, 0, 0)", "fit(0, 1, 1)", "fit(0, 1, 2)", "fit(0, 5, 0)", "fit(-1, 0, 0)", "fit(0, 1, 32)", "fit(0, 1, 8)",
        "agrees(-1, 0, 0, 1, 1) -1", "agrees(0, 5, 0, 1, 1) -1", "agrees(0, 1, 1, 1, 1) -1", "agrees(0, 1, 2, 1, 1) -1",
        "agrees(0, 1, 32, 1, 1) -1", "agrees(0, 1, 0, 2, 1) -1", "agrees(0, 1, 0, 1, -1) -1", "agrees(4, 1, 0, 0, 1) -2",
        "fixed(1, 0)", "fixed(0, 3)", "fixed(-1, 0)", "fixed(0, 5)", "fixed(0, 33)",
        "otherwise(0, 1, -1) -1", "otherwise(0, 1, 5) -1", "otherwise(0, 0, 0) -1", "otherwise(0, 5, 0) -1", "otherwise(-1, 0, 4) -1",
        "draw(1, 32) -1", "draw(1, 256) -1", "draw(1, -1) -1", "draw(1, 65536) -1",
        "count(-1) -1", "count(3) -1"
    };

    private static final String[] CHANGES_FULL = {
        "cut(0, 7)", "cut(6, 7)", "turn(0, 1)", "turn(6, 7)", "book(7, 127, 100)", "book(0, 0, 0)", "chance(257, 0, 0)"
    };
    private static final String[] REFUSED_FULL = {
        "thing(true) -1", "thing(false) -1",
        "arrow(0, 7)", "arrow(7, 0)", "arrow(3, 3)", "arrow(0, 8)", "arrow(-1, 7)",
        "cut(7, 0)", "cut(0, 0)", "cut(0, 8)", "cut(-1, 7)", "cut(32, 7)",
        "turn(0, 7)", "turn(0, 2)", "turn(5, 7)", "turn(7, 0)", "turn(0, 8)", "turn(-1, 7)",
        "book(7, 128, 7)", "book(7, -1, 7)", "book(6, 64, 7)", "book(0, 1, 7)", "book(8, 0, 7)", "book(-1, 127, 7)",
        "book(7, 127, 101)", "book(7, 127, -1)",
        "booked(7, 128) -1", "booked(6, 127) -1", "booked(8, 0) -1", "told(8, 1) -1", "told(7, 4) -1",
        "weight(256, 0) -1", "weight(65280, 0) -1", "weight(65536, 0) -1", "weight(0, 65280) -1",
        "chance(65280, 0, 0) -1", "chance(0, 65536, 0) -1", "chance(0, 0, -1) -1", "chance(0, 65535, 255) 0",
        "bars(256, 0, 0)", "bars(255, 1, 0)", "bars(127, 128, 255)", "bars(0, 0, -1)",
        "least(7, 7) -1", "least(0, 8) -1", "leastAt(0, 7, 0) -1", "leastAt(8, 0, 0) -1",
        "fit(7, 7, 0)", "fit(0, 7, 255)", "fit(0, 7, 256)", "fit(0, 8, 0)",
        "agrees(0, 7, 127, 1, 1) -1", "agrees(0, 7, 256, 1, 1) -1", "agrees(0, 8, 0, 1, 1) -1", "agrees(0, 7, 126, 1, 2) -1",
        "fixed(7, 0)", "fixed(0, 8)", "otherwise(0, 8, 0) -1", "otherwise(7, 7, 0) -1", "otherwise(0, 7, 5) -1",
        "draw(1, 256) -1", "draw(1, 65536) -1", "count(-1) -1", "count(3) -1"
    };

    private static final String[] ASKED = {
        "booked(2, 3)", "told(0, 0)", "told(2, 1)", "told(0, 2)", "told(0, 3)", "weight(257, 514)", "above()", "below()",
        "bars(1, 4, 2)", "bars(1, 16, 0)", "least(0, 4)", "leastAt(0, 4, 0)", "fit(0, 2, 0)", "fit(2, 0, 2)",
        "agrees(0, 2, 2, 1, 1)", "agrees(2, 0, 2, 0, 1)", "alike()", "fixed(1, 2)", "otherwise(0, 2, 1)", "draw(99, 257)", "count(1)"
    };

    /** Eight THINGS of which every third is not SEEN, all ARROWS, BOOKS without pattern, a chance that is none of 0 and 1. */
    private static String[] full() {
        List<String> calls = new ArrayList<>();
        for (int k = 0; k < Made.MOST; k++) {
            calls.add("thing(" + (k % 3 != 1) + ")");
            for (int from = 0; from < k; from++) {
                calls.add("arrow(" + from + ", " + k + ")");
            }
        }
        for (int k = 0; k < Made.MOST; k++) {
            for (int row = 0; row < 1 << k; row++) {
                calls.add("book(" + k + ", " + row + ", " + (1 + (row * 37 + k * 11) % 99) + ")");
            }
        }
        calls.add("chance(257, 32896, 0)");
        return calls.toArray(new String[0]);
    }

    private final String name;
    private final List<Call> history;
    private final List<Call> changes;
    private final List<Call> questions;
    private final long[] before;
    private final long[][] beforeChanges;

    private RefusedTest(String name, int things, String[] history, String[] changes) {
        this.name = name;
        this.history = Call.all(history);
        this.changes = Call.all(changes);
        this.questions = Answers.questions(things);
        this.before = Answers.of(this.history, questions);
        this.beforeChanges = new long[changes.length][];
        for (int i = 0; i < changes.length; i++) {
            beforeChanges[i] = Answers.of(with(this.history, this.changes.get(i)), questions);
            due.yes(name + ": " + changes[i] + " is taken", isTaken(this.changes.get(i)));
        }
    }

    private boolean isTaken(Call change) {
        long answer = change.on(Answers.after(history));
        return change.is("thing") ? answer >= 0 : answer == 1;
    }

    private static List<Call> with(List<Call> history, Call... more) {
        List<Call> longer = new ArrayList<>(history);
        longer.addAll(List.of(more));
        return longer;
    }

    /** Each with the answer that refuses it; where none is written it is false. */
    private void all(String[] refused) {
        for (String line : refused) {
            int end = line.indexOf(')') + 1;
            String answer = end < line.length() ? line.substring(end + 1) : FALSE_OR_ZERO;
            one(Call.parse(line.substring(0, end)), Long.parseLong(answer));
        }
    }

    private void asked(String[] calls) {
        for (Call call : Call.all(calls)) {
            compare(call, "", Answers.of(with(history, call), questions), before, false);
        }
    }

    private void one(Call refused, long answer) {
        due.same(name + ": " + refused.text(), refused.on(Answers.after(history)), answer);
        List<Call> longer = with(history, refused);
        compare(refused, "", Answers.of(longer, questions), before, refused.is("chance"));
        due.same(name + ": " + refused.text() + " again", refused.on(Answers.after(longer)), answer);
        for (int i = 0; i < beforeChanges.length; i++) {
            Call change = changes.get(i);
            String then = " and " + change.text();
            due.same(name + ": " + change.text() + " behind " + refused.text(),
                change.on(Answers.after(longer)), change.on(Answers.after(history)));
            boolean fresh = refused.is("chance") && !change.is("chance");
            compare(refused, then, Answers.of(with(longer, change), questions), beforeChanges[i], fresh);
        }
    }

    /** The first two questions are above() and below(). */
    private void compare(Call refused, String then, long[] got, long[] want, boolean fractionGoes) {
        for (int i = 0; i < want.length; i++) {
            long answer = fractionGoes && i < 2 ? i : want[i];
            // millions are compared, so a text is made for those alone that are shown
            String which = got[i] == answer ? "" : questions.get(i).text() + " behind " + refused.text() + then;
            due.same(name + ": " + which, got[i], answer);
        }
    }
}
