import java.util.List;

/**
 * "An object is used for at most 512 calls after it has been made": the 512th call answers as it would have
 * without those between, whatever they were, and what has been changed over and over holds.
 */
public final class LastCallTest {
    private static final int MOST_CALLS = 512;
    private static final Due due = new Due();

    private static final String[] DRAWING = {
        "thing(true)", "thing(true)", "thing(true)", "thing(false)", "thing(true)", "thing(true)", "thing(true)",
        "arrow(0, 1)", "arrow(1, 2)", "arrow(0, 2)", "arrow(3, 2)", "arrow(2, 5)", "arrow(6, 5)",
        "book(0, 0, 30)", "book(1, 0, 20)", "book(1, 1, 90)", "book(2, 5, 40)", "book(3, 0, 1)", "chance(257, 514, 0)"
    };

    /** They change nothing, not even what above() and below() are. */
    private static final String[] BETWEEN = {
        "arrow(0, 1)", "arrow(2, 0)", "cut(1, 0)", "turn(0, 2)", "book(2, 8, 1)", "booked(2, 7)", "told(0, 3)",
        "weight(257, 514)", "above()", "below()", "bars(1, 32, 4)", "least(0, 5)", "leastAt(0, 5, 0)", "fit(0, 2, 0)",
        "agrees(0, 5, 120, 1, 1)", "agrees(1, 2, 9, 1, 1)", "alike()", "fixed(0, 1)", "otherwise(0, 5, 1)", "draw(9, 514)", "count(2)"
    };

    private static final String[] LAST = {
        "thing(true)", "thing(false)", "arrow(4, 5)", "arrow(5, 0)", "cut(0, 2)", "cut(2, 0)", "turn(0, 1)", "turn(0, 2)",
        "book(2, 7, 100)", "book(2, 7, 101)", "booked(2, 5)", "told(0, 3)", "told(7, 0)", "weight(514, 257)", "weight(65535, 0)",
        "chance(257, 514, 0)", "chance(257, 1, 257)", "chance(0, 0, 128)", "above()", "below()", "bars(1, 32, 4)", "bars(1, 32, 0)",
        "least(0, 5)", "leastAt(0, 5, 0)", "leastAt(0, 5, 9)", "fit(0, 2, 0)", "fit(0, 2, 8)", "agrees(0, 1, 64, 1, 1)",
        "agrees(2, 0, 0, 1, 1)", "alike()", "fixed(6, 5)", "fixed(0, 1)", "otherwise(0, 2, 1)", "draw(1, 0)", "count(1)"
    };

    public static void main(String[] args) {
        due.about("An object is used for at most 512 calls after it has been made");
        lastCallOfEachKind();
        lastBehindOneKind();
        thingsTooMany();
        arrowsOverAndOver();
        turnsOverAndOver();
        booksOverAndOver();
        chancesOverAndOver();
        due.end();
    }

    private static List<Call> filled(List<Call> between) {
        List<Call> history = Call.all(DRAWING);
        for (int i = 0; history.size() < MOST_CALLS - 1; i++) {
            history.add(between.get(i % between.size()));
        }
        return history;
    }

    private static void lastCallOfEachKind() {
        List<Call> history = filled(Call.all(BETWEEN));
        for (Call last : Call.all(LAST)) {
            long want = last.on(Answers.after(Call.all(DRAWING)));
            due.same("as the 512th: " + last.text(), last.on(Answers.after(history)), want);
        }
    }

    private static void lastBehindOneKind() {
        for (Call between : Call.all(BETWEEN)) {
            List<Call> history = filled(List.of(between));
            for (Call last : Call.all("alike()", "weight(514, 257)", "agrees(0, 1, 64, 1, 1)", "leastAt(0, 5, 0)", "above()")) {
                long want = last.on(Answers.after(Call.all(DRAWING)));
                due.same(last.text() + " behind many " + between.text(), last.on(Answers.after(history)), want);
            }
        }
    }

    private static void thingsTooMany() {
        MadeItSo x = new MadeItSo();
        for (int call = 1; call < MOST_CALLS; call++) {
            due.same("thing, call " + call, x.thing(call % 2 == 1), call <= Made.MOST ? call - 1 : MadeItSo.NONE);
        }
        due.same("SEEN ones", x.count(2), 85);
    }

    private static void arrowsOverAndOver() {
        MadeItSo x = Made.drawn(2);
        for (int round = 0; round < 127; round++) {
            due.same("arrow there", x.arrow(0, 1), true);
            due.same("cut there", x.cut(0, 1), true);
            due.same("arrow back", x.arrow(1, 0), true);
            due.same("cut back", x.cut(1, 0), true);
        }
        due.same("the 511th call", x.arrow(0, 1), true);
        due.same("the 512th call", x.told(1, 1), 1);
    }

    private static void turnsOverAndOver() {
        MadeItSo x = Made.drawn(3, 0, 1);
        for (int round = 0; round < 253; round++) {
            due.same("turn", x.turn(0, 1), true);
            due.same("turn back", x.turn(1, 0), true);
        }
        due.same("the 511th call", x.turn(0, 1), true);
        due.same("the 512th call", x.told(0, 1), 2);
    }

    private static void booksOverAndOver() {
        MadeItSo x = Made.drawn(2, 0, 1);
        for (int call = 4; call < MOST_CALLS; call++) {
            due.same("book, call " + call, x.book(1, call % 2, call % 101), true);
        }
        due.same("the 512th call", x.booked(1, 1), 511 % 101);
    }

    private static void chancesOverAndOver() {
        MadeItSo x = Made.pair();
        for (int call = 7; call < MOST_CALLS; call++) {
            due.same("chance, call " + call, x.chance(Made.is(0, 1), call % 2 == 0 ? 4 : Made.is(1, 1), 0), call % 2 == 0 ? -1 : 1);
        }
        due.same("the 512th call", x.above(), 27);
    }
}
