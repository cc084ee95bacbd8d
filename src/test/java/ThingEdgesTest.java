/**
 * The edges of promises 1 to 8 and 22 (THINGS, ARROWS, BOOKS): the empty object and the full one, the last
 * value that is taken and the first that is refused. Each test says the document's words that it is about.
 */
public final class ThingEdgesTest {
    private static final int NONE = MadeItSo.NONE;
    private static final int MOST = Made.MOST;
    private static final int LEAST_INT = Integer.MIN_VALUE;
    private static final int GREATEST_INT = Integer.MAX_VALUE;

    private static final Due due = new Due();

    public static void main(String[] args) {
        constant();
        emptyHasNothing();
        emptyIsReckoned();
        objectsAreApart();
        numbersAsTheyCome();
        atMostEight();
        seenOrNot();
        thingComesBare();
        arrowComes();
        arrowNoSuchThing();
        arrowBothOne();
        arrowBetweenAlready();
        arrowLeadsRound();
        arrowsOfTheFullOne();
        cutGoes();
        cutNoneSuch();
        turnTurns();
        turnNoneSuch();
        turnLeadsRound();
        turnsOfTheFullOne();
        bookRows();
        bookParts();
        bookNoSuchThing();
        bookedNoneSuch();
        fiftyAtFirst();
        fiftyAgainByArrowAndCut();
        fiftyAgainByTurn();
        rowsByNumbers();
        toldWhats();
        toldNoSuchThing();
        toldItselfNot();
        toldEmptyAndFull();
        countWhats();
        countEmptyAndFull();
        due.end();
    }

    private static void constant() {
        due.about("NONE = -1");
        due.same("NONE", MadeItSo.NONE, -1);
    }

    private static void emptyHasNothing() {
        due.about("Promise 1: No THINGS");
        MadeItSo x = new MadeItSo();
        for (int what = 0; what < 3; what++) {
            due.same("count " + what, x.count(what), 0);
        }
        for (int k : new int[] {-1, 0, 1, 7, 8}) {
            due.same("booked of " + k, x.booked(k, 0), NONE);
            due.same("book of " + k, x.book(k, 0, 50), false);
            for (int other : new int[] {-1, 0, 1, 7, 8}) {
                due.same("arrow", x.arrow(k, other), false);
                due.same("cut", x.cut(k, other), false);
                due.same("turn", x.turn(k, other), false);
                due.same("fixed", x.fixed(k, other), false);
                due.same("least", x.least(k, other), NONE);
                due.same("leastAt", x.leastAt(k, other, 0), NONE);
                due.same("fit", x.fit(k, other, 0), false);
                due.same("agrees", x.agrees(k, other, 0, 1, 1), NONE);
                due.same("otherwise", x.otherwise(k, other, 0), NONE);
            }
            for (int what = 0; what < 4; what++) {
                due.same("told of " + k, x.told(k, what), NONE);
            }
        }
        due.same("the first one", x.thing(true), 0);
    }

    private static void emptyIsReckoned() {
        due.about("Promise 1: No THINGS; All WEIGHTS together are 100 to the power of n");
        MadeItSo x = new MadeItSo();
        due.same("above ahead of any", x.above(), 0);
        due.same("below ahead of any", x.below(), 1);
        due.same("weight of the one CASE", x.weight(0, 0), 1);
        due.same("chance of the empty SETTING", x.chance(0, 0, 0), 1);
        due.same("above", x.above(), 1);
        due.same("below", x.below(), 1);
        due.same("the empty HEAP bars empty ones", x.bars(0, 0, 0), true);
        due.same("alike", x.alike(), 1);
        due.same("draw", x.draw(1, 0), 0);
        for (int bit = 0; bit < 32; bit++) {
            due.same("weight of bit " + bit, x.weight(1 << bit, 0), NONE);
            due.same("draw under bit " + bit, x.draw(1, 1 << bit), NONE);
            due.same("bars " + bit, x.bars(1 << bit, 0, 0) || x.bars(0, 1 << bit, 0) || x.bars(0, 0, 1 << bit), false);
        }
    }

    private static void objectsAreApart() {
        due.about("Promise 1: No THINGS");
        MadeItSo full = Made.dense(MOST);
        full.book(7, 127, 3);
        full.chance(Made.is(0, 1), 0, 0);
        MadeItSo x = new MadeItSo();
        due.same("count behind another object's", x.count(0), 0);
        due.same("below behind another object's chance", x.below(), 1);
        due.same("the other one's THINGS", full.count(0), MOST);
        due.same("the other one's below", full.below(), 2);
    }

    private static void numbersAsTheyCome() {
        due.about("THINGS have numbers 0, 1, .. as they come");
        MadeItSo x = new MadeItSo();
        for (int k = 0; k < MOST; k++) {
            due.same("not there yet: " + k, x.told(k, 0), NONE);
            due.same("thing", x.thing(k % 2 == 0), k);
            due.same("there: " + k, x.told(k, 0), k % 2 == 0 ? 1 : 0);
            due.same("how many", x.count(0), k + 1);
        }
    }

    private static void atMostEight() {
        due.about("Promise 2: NONE if there are 8");
        MadeItSo x = Made.seen(MOST - 1, 0);
        due.same("the eighth", x.thing(false), MOST - 1);
        for (int more = 0; more < 3; more++) {
            due.same("one more, SEEN", x.thing(true), NONE);
            due.same("one more, not SEEN", x.thing(false), NONE);
        }
        due.same("how many", x.count(0), MOST);
        due.same("none became SEEN", x.count(2), 0);
        due.same("no ninth", x.told(MOST, 0), NONE);
    }

    private static void seenOrNot() {
        due.about("and SEEN, or not");
        for (int heap : new int[] {0, 1, 128, 127, 254, 85, 170, 255}) {
            MadeItSo x = Made.seen(MOST, heap);
            due.same("SEEN ones", x.count(2), heap);
            for (int k = 0; k < MOST; k++) {
                due.same("whether " + k + " is of " + heap, x.told(k, 0), heap >> k & 1);
            }
        }
    }

    private static void thingComesBare() {
        due.about("Promise 2: A THING comes");
        MadeItSo x = Made.pair();
        due.same("thing", x.thing(false), 2);
        for (int what = 0; what < 4; what++) {
            due.same("told of the new one, " + what, x.told(2, what), 0);
        }
        due.same("its BOOK", x.booked(2, 0), 50);
        due.same("its only ROW", x.booked(2, 1), NONE);
        due.same("another's BOOK stays", x.booked(1, 1), 90);
        due.same("another's PARENTS stay", x.told(1, 1), 1);
        due.same("ARROWS stay", x.count(1), 1);
        due.same("SEEN ones stay", x.count(2), 3);
    }

    private static void arrowComes() {
        due.about("Promise 3: An ARROW comes: true");
        for (int things = 2; things <= MOST; things++) {
            int last = things - 1;
            MadeItSo upward = Made.drawn(things);
            due.same("from the first to the last", upward.arrow(0, last), true);
            due.same("PARENTS of the last", upward.told(last, 1), 1);
            due.same("those it leads to", upward.told(0, 2), 1 << last);
            MadeItSo downward = Made.drawn(things);
            due.same("from the last to the first", downward.arrow(last, 0), true);
            due.same("PARENTS of the first", downward.told(0, 1), 1 << last);
            due.same("no PARENTS of the last", downward.told(last, 1), 0);
            due.same("how many", downward.count(1), 1);
        }
    }

    private static void arrowNoSuchThing() {
        due.about("Promise 3: False if there is no such THING");
        for (int things = 1; things <= MOST; things++) {
            MadeItSo x = Made.drawn(things);
            for (int no : new int[] {-1, things, 8, 31, 32, 33, 64, -32, LEAST_INT, GREATEST_INT}) {
                due.same("arrow(0, " + no + ") of " + things, x.arrow(0, no), false);
                due.same("arrow(" + no + ", 0) of " + things, x.arrow(no, 0), false);
                due.same("arrow(" + no + ", last) of " + things, x.arrow(no, things - 1), false);
                due.same("arrow(last, " + no + ") of " + things, x.arrow(things - 1, no), false);
            }
            due.same("no ARROW of " + things, x.count(1), 0);
        }
    }

    private static void arrowBothOne() {
        due.about("Promise 3: both are one");
        MadeItSo x = Made.drawn(MOST);
        for (int k = -1; k <= MOST; k++) {
            due.same("arrow(" + k + ", " + k + ")", x.arrow(k, k), false);
        }
        due.same("how many", x.count(1), 0);
    }

    private static void arrowBetweenAlready() {
        due.about("Promise 3: there is one between them already");
        MadeItSo x = Made.drawn(3, 0, 1);
        due.same("the same way", x.arrow(0, 1), false);
        due.same("the other way", x.arrow(1, 0), false);
        due.same("how many", x.count(1), 1);
        due.same("PARENTS of 0", x.told(0, 1), 0);
        due.same("another one", x.arrow(0, 2), true);
        due.same("cut", x.cut(0, 1), true);
        due.same("the other way when it is gone", x.arrow(1, 0), true);
    }

    private static void arrowLeadsRound() {
        due.about("Promise 3: or it would lead round");
        for (int things = 3; things <= MOST; things++) {
            int last = things - 1;
            MadeItSo x = Made.row(things);
            due.same("round by " + things, x.arrow(last, 0), false);
            due.same("not round by " + things, x.arrow(0, last), true);
            MadeItSo down = Made.drawn(things);
            for (int k = last; k > 0; k--) {
                Made.join(down, k, k - 1);
            }
            due.same("downward, round by " + things, down.arrow(0, last), false);
            due.same("downward, not round by " + things, down.arrow(last, 0), true);
            MadeItSo open = Made.row(things);
            due.same("cut", open.cut(last / 2, last / 2 + 1), true);
            due.same("no more round by " + things, open.arrow(last, 0), true);
        }
    }

    private static void arrowsOfTheFullOne() {
        due.about("none can come that would lead round");
        MadeItSo x = Made.dense(MOST);
        due.same("how many", x.count(1), 28);
        for (int from = -1; from <= MOST; from++) {
            for (int to = -1; to <= MOST; to++) {
                due.same("arrow(" + from + ", " + to + ")", x.arrow(from, to), false);
            }
        }
        due.same("how many still", x.count(1), 28);
        due.same("cut of the outermost", x.cut(0, 7), true);
        due.same("it would lead round against", x.arrow(7, 0), false);
        due.same("the last that can come", x.arrow(0, 7), true);
    }

    private static void cutGoes() {
        due.about("Promise 4: An ARROW goes: true");
        MadeItSo x = Made.dense(MOST);
        for (int from = 0; from < MOST; from++) {
            for (int to = from + 1; to < MOST; to++) {
                int before = x.count(1);
                due.same("cut(" + from + ", " + to + ")", x.cut(from, to), true);
                due.same("how many", x.count(1), before - 1);
                due.same("it is gone from " + to, x.told(to, 1) >> from & 1, 0);
                due.same("it is gone from " + from, x.told(from, 2) >> to & 1, 0);
                due.same("cut twice", x.cut(from, to), false);
            }
        }
        due.same("none left", x.count(1), 0);
    }

    private static void cutNoneSuch() {
        due.about("Promise 4: false if there is none such");
        for (int things = 2; things <= MOST; things++) {
            int last = things - 1;
            MadeItSo x = Made.drawn(things, 0, last);
            due.same("against it", x.cut(last, 0), false);
            due.same("of one to itself", x.cut(0, 0) || x.cut(last, last), false);
            for (int no : new int[] {-1, things, 8, 32, 32 + last, -32, LEAST_INT, GREATEST_INT}) {
                due.same("cut(0, " + no + ") of " + things, x.cut(0, no), false);
                due.same("cut(" + no + ", last) of " + things, x.cut(no, last), false);
                due.same("cut(" + no + ", " + no + ")", x.cut(no, no), false);
            }
            due.same("it is there still", x.told(last, 1), 1);
            due.same("the one that is there", x.cut(0, last), true);
        }
        MadeItSo row = Made.row(MOST);
        due.same("one behind the other is no ARROW", row.cut(0, 2) || row.cut(0, 7), false);
        due.same("all there still", row.count(1), 7);
    }

    private static void turnTurns() {
        due.about("Promise 5: An ARROW is turned round: true");
        for (int things = 2; things <= MOST; things++) {
            int last = things - 1;
            MadeItSo x = Made.drawn(things, 0, last);
            due.same("turn", x.turn(0, last), true);
            due.same("PARENTS of the first", x.told(0, 1), 1 << last);
            due.same("PARENTS of the last", x.told(last, 1), 0);
            due.same("those the first leads to", x.told(0, 2), 0);
            due.same("those the last leads to", x.told(last, 2), 1);
            due.same("how many", x.count(1), 1);
            due.same("the same again", x.turn(0, last), false);
            due.same("back", x.turn(last, 0), true);
            due.same("PARENTS of the last again", x.told(last, 1), 1);
        }
    }

    private static void turnNoneSuch() {
        due.about("Promise 5: false if there is none such");
        for (int things = 2; things <= MOST; things++) {
            int last = things - 1;
            MadeItSo x = Made.drawn(things, 0, last);
            due.same("against it", x.turn(last, 0), false);
            due.same("of one to itself", x.turn(0, 0) || x.turn(last, last), false);
            for (int no : new int[] {-1, things, 8, 32, 32 + last, -32, LEAST_INT, GREATEST_INT}) {
                due.same("turn(0, " + no + ") of " + things, x.turn(0, no), false);
                due.same("turn(" + no + ", last) of " + things, x.turn(no, last), false);
            }
            due.same("it is there still", x.told(last, 1), 1);
            due.same("cut", x.cut(0, last), true);
            due.same("when it is gone", x.turn(0, last), false);
        }
        due.same("one behind the other is no ARROW", Made.row(3).turn(0, 2), false);
    }

    private static void turnLeadsRound() {
        due.about("Promise 5: or it would lead round then");
        for (int things = 3; things <= MOST; things++) {
            int last = things - 1;
            MadeItSo x = Made.row(things);
            due.same("past the row", x.arrow(0, last), true);
            due.same("round by " + things, x.turn(0, last), false);
            due.same("PARENTS of the last", x.told(last, 1), 1 | 1 << (last - 1));
            due.same("PARENTS of the first", x.told(0, 1), 0);
            due.same("how many", x.count(1), things);
            due.same("a link of the row", x.turn(last - 1, last), true);
            due.same("no more round by " + things, x.turn(0, last), true);
        }
    }

    private static void turnsOfTheFullOne() {
        due.about("Promise 5: or it would lead round then");
        for (int from = 0; from < MOST; from++) {
            for (int to = from + 1; to < MOST; to++) {
                MadeItSo x = Made.dense(MOST);
                due.same("turn(" + from + ", " + to + ")", x.turn(from, to), to == from + 1);
                due.same("how many", x.count(1), 28);
                due.same("which way it leads", x.told(to, 2) >> from & 1, to == from + 1 ? 1 : 0);
            }
        }
    }

    private static void bookRows() {
        due.about("Promise 6: false if there is no such ROW");
        for (int parents = 0; parents < MOST; parents++) {
            MadeItSo x = Made.inward(parents + 1, parents);
            int rows = 1 << parents;
            due.same("ROW 0 with PARENTS: " + parents, x.book(parents, 0, 1), true);
            due.same("the last ROW with PARENTS: " + parents, x.book(parents, rows - 1, 2), true);
            for (int no : new int[] {-1, rows, rows + 1, 128, 129, 256, -rows, LEAST_INT, GREATEST_INT}) {
                due.same("book of ROW " + no + " with PARENTS: " + parents, x.book(parents, no, 3), false);
            }
            due.same("ROW 0 as it was", x.booked(parents, 0), parents == 0 ? 2 : 1);
            due.same("the last ROW as it was", x.booked(parents, rows - 1), 2);
        }
    }

    private static void bookParts() {
        due.about("Promise 6: or parts are not 0 .. 100");
        MadeItSo x = Made.pair();
        for (int parts = 0; parts <= 100; parts++) {
            due.same("book of parts " + parts, x.book(1, 1, parts), true);
            due.same("booked parts", x.booked(1, 1), parts);
        }
        for (int no : new int[] {-1, 101, -100, 127, 128, 200, 256, 306, 65536, LEAST_INT, GREATEST_INT}) {
            due.same("book of parts " + no, x.book(1, 1, no), false);
            due.same("booked as before", x.booked(1, 1), 100);
        }
        due.same("0 again", x.book(1, 1, 0), true);
        due.same("-1 behind 0", x.book(1, 1, -1), false);
        due.same("booked 0", x.booked(1, 1), 0);
        due.same("the other ROW", x.booked(1, 0), 20);
    }

    private static void bookNoSuchThing() {
        due.about("Promise 6: false if there is no such THING");
        for (int things = 1; things <= MOST; things++) {
            MadeItSo x = Made.drawn(things);
            due.same("the first of " + things, x.book(0, 0, 7), true);
            due.same("the last of " + things, x.book(things - 1, 0, 7), true);
            for (int no : new int[] {-1, things, 8, 32, -32, LEAST_INT, GREATEST_INT}) {
                due.same("book of " + no + " of " + things, x.book(no, 0, 9), false);
            }
            due.same("the first one's BOOK", x.booked(0, 0), 7);
            due.same("the last one's BOOK", x.booked(things - 1, 0), 7);
        }
        MadeItSo later = Made.drawn(1);
        due.same("ahead of its coming", later.book(1, 0, 9), false);
        due.same("thing", later.thing(true), 1);
        due.same("its BOOK when it came", later.booked(1, 0), 50);
    }

    private static void bookedNoneSuch() {
        due.about("Promise 7: NONE if there is none such");
        for (int parents = 0; parents < MOST; parents++) {
            MadeItSo x = Made.inward(parents + 1, parents);
            int rows = 1 << parents;
            due.same("ROW 0 with PARENTS: " + parents, x.booked(parents, 0), 50);
            due.same("the last ROW with PARENTS: " + parents, x.booked(parents, rows - 1), 50);
            for (int no : new int[] {-1, rows, rows + 1, 128, 129, 256, -rows, LEAST_INT, GREATEST_INT}) {
                due.same("booked of ROW " + no + " with PARENTS: " + parents, x.booked(parents, no), NONE);
            }
            for (int no : new int[] {-1, parents + 1, 8, 32, -32, LEAST_INT, GREATEST_INT}) {
                due.same("booked of " + no + " of " + (parents + 1), x.booked(no, 0), NONE);
            }
        }
    }

    private static void fiftyAtFirst() {
        due.about("50 at first");
        MadeItSo x = Made.inward(MOST, 3);
        for (int row = 0; row < 128; row++) {
            due.same("ROW " + row, x.booked(3, row), 50);
        }
        for (int k = 0; k < MOST; k++) {
            due.same("ROW 0 of " + k, x.booked(k, 0), 50);
        }
    }

    private static void fillBook(MadeItSo x, int thing, int rows) {
        for (int row = 0; row < rows; row++) {
            due.same("book of ROW " + row, x.book(thing, row, row % 50), true);
        }
    }

    private static void bookIsFifty(MadeItSo x, int thing, int rows) {
        for (int row = 0; row < rows; row++) {
            due.same("ROW " + row + " of " + thing, x.booked(thing, row), 50);
        }
        due.same("ROW behind the last of " + thing, x.booked(thing, rows), NONE);
    }

    private static void fiftyAgainByArrowAndCut() {
        due.about("and all again when its PARENTS change");
        MadeItSo cut = Made.inward(MOST, 3);
        cut.book(0, 0, 11);
        fillBook(cut, 3, 128);
        due.same("cut", cut.cut(0, 3), true);
        bookIsFifty(cut, 3, 64);
        due.same("where it came from has its BOOK still", cut.booked(0, 0), 11);
        fillBook(cut, 3, 64);
        due.same("arrow", cut.arrow(0, 3), true);
        due.same("where it comes from has its BOOK still", cut.booked(0, 0), 11);
        for (int row = 0; row < 128; row += 9) {
            due.same("ROW " + row + " behind the arrow", cut.booked(3, row), 50);
        }
        MadeItSo only = Made.pair();
        due.same("cut of the only one", only.cut(0, 1), true);
        bookIsFifty(only, 1, 1);
        due.same("book", only.book(1, 0, 3), true);
        due.same("the first one", only.arrow(0, 1), true);
        bookIsFifty(only, 1, 2);
        due.same("30 as before", only.booked(0, 0), 30);
    }

    private static void fiftyAgainByTurn() {
        due.about("and all again when its PARENTS change");
        // 2 leads to 0 and 1, 0 to 1, and all to 3
        MadeItSo x = Made.drawn(4, 2, 0, 2, 1, 0, 1, 0, 3, 1, 3, 2, 3);
        fillBook(x, 0, 2);
        fillBook(x, 1, 4);
        fillBook(x, 2, 1);
        fillBook(x, 3, 8);
        due.same("turn", x.turn(0, 1), true);
        bookIsFifty(x, 0, 4);
        bookIsFifty(x, 1, 2);
        due.same("the BOOK of a PARENT of both", x.booked(2, 0), 0);
        for (int row = 0; row < 8; row++) {
            due.same("the BOOK of one behind both, ROW " + row, x.booked(3, row), row);
        }
        fillBook(x, 0, 4);
        fillBook(x, 1, 2);
        due.same("turn back", x.turn(1, 0), true);
        bookIsFifty(x, 0, 2);
        bookIsFifty(x, 1, 4);
    }

    private static void rowsByNumbers() {
        due.about("bit i of a ROW's number is what its i-th PARENT is (from 0 on, by numbers)");
        for (int to = 0; to < MOST; to++) {
            int others = 255 & ~(1 << to);
            for (int row : new int[] {0, 1, 2, 4, 8, 16, 32, 64, 127, 126, 63, 85}) {
                MadeItSo x = Made.inward(MOST, to);
                for (int other = 0; other < 128; other++) {
                    x.book(to, other, other == row ? 100 : 0);
                }
                // the bits of the row from the one's own place on stand one place higher in a CASE
                int below = row & Made.all(to);
                int ones = below | (row & ~below) << 1;
                String which = "ROW " + row + " of " + to;
                long each = Made.hundredTo(8) >> 7;
                due.same(which, x.weight(255 | (ones | 1 << to) << 8, 0), each);
                due.same(which + " alone", x.weight(Made.is(to, 1), 0), each);
                due.same(which + " is 1 there", x.weight(255 | ones << 8, 0), 0);
                due.same(which + " drawn", x.draw(1, others | ones << 8), ones | 1 << to);
            }
        }
    }

    private static void toldWhats() {
        due.about("Promise 8: 0 whether it is SEEN, 1 its PARENTS, 2 .., 3 .. NONE for others");
        MadeItSo x = Made.row(4);
        due.same("told(1, 0)", x.told(1, 0), 1);
        due.same("told(1, 1)", x.told(1, 1), 1);
        due.same("told(1, 2)", x.told(1, 2), 4);
        due.same("told(1, 3)", x.told(1, 3), 12);
        for (int no : new int[] {-1, 4, 5, -4, 256, LEAST_INT, GREATEST_INT}) {
            due.same("told(1, " + no + ")", x.told(1, no), NONE);
        }
    }

    private static void toldNoSuchThing() {
        due.about("Promise 8: NONE .. no such THING");
        for (int things = 1; things <= MOST; things++) {
            MadeItSo x = Made.row(things);
            for (int what = 0; what < 4; what++) {
                due.yes("told of the first of " + things, x.told(0, what) != NONE);
                due.yes("told of the last of " + things, x.told(things - 1, what) != NONE);
                for (int no : new int[] {-1, things, 8, 32, -32, LEAST_INT, GREATEST_INT}) {
                    due.same("told(" + no + ", " + what + ") of " + things, x.told(no, what), NONE);
                }
            }
        }
    }

    private static void toldItselfNot() {
        due.about("BELOW it are those to which ARROWS lead from it, one behind the other (itself not)");
        MadeItSo x = Made.row(MOST);
        for (int k = 0; k < MOST; k++) {
            due.same("BELOW " + k + " of a row", x.told(k, 3), 255 & ~Made.all(k + 1));
        }
        MadeItSo diamond = Made.drawn(4, 0, 1, 0, 2, 1, 3, 2, 3);
        due.same("BELOW the head", diamond.told(0, 3), 14);
        due.same("BELOW a side", diamond.told(1, 3), 8);
        due.same("BELOW the foot", diamond.told(3, 3), 0);
    }

    private static void toldEmptyAndFull() {
        due.about("Promise 8: HEAPS (the empty one, and all others)");
        MadeItSo bare = Made.drawn(MOST);
        MadeItSo dense = Made.dense(MOST);
        for (int k = 0; k < MOST; k++) {
            int lesser = Made.all(k);
            int greater = 255 & ~Made.all(k + 1);
            for (int what = 1; what < 4; what++) {
                due.same("told(" + k + ", " + what + ") without ARROWS", bare.told(k, what), 0);
            }
            due.same("PARENTS of " + k, dense.told(k, 1), lesser);
            due.same("those to which " + k + " leads", dense.told(k, 2), greater);
            due.same("BELOW " + k, dense.told(k, 3), greater);
        }
        due.same("seven PARENTS", Made.inward(MOST, 4).told(4, 1), 239);
    }

    private static void countWhats() {
        due.about("Promise 22: NONE for others");
        for (MadeItSo x : new MadeItSo[] {new MadeItSo(), Made.pair(), Made.dense(MOST)}) {
            for (int no : new int[] {-1, 3, 4, -2, 256, LEAST_INT, GREATEST_INT}) {
                due.same("count(" + no + ")", x.count(no), NONE);
            }
            for (int what = 0; what < 3; what++) {
                due.yes("count(" + what + ")", x.count(what) != NONE);
            }
        }
    }

    private static void countEmptyAndFull() {
        due.about("Promise 22: 0 THINGS, 1 ARROWS, 2 SEEN ones (a HEAP)");
        for (int things = 0; things <= MOST; things++) {
            MadeItSo x = Made.dense(things);
            due.same("THINGS", x.count(0), things);
            due.same("ARROWS of " + things, x.count(1), things * (things - 1) / 2);
            due.same("SEEN ones of " + things, x.count(2), Made.all(things));
        }
        due.same("none SEEN", Made.seen(MOST, 0).count(2), 0);
        due.same("the last alone", Made.seen(MOST, 128).count(2), 128);
    }
}
