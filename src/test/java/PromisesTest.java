/** Each promise of the document by itself: ordinary inputs, the edges it names, and wrong inputs. */
public final class PromisesTest {
    private static final int[] WRONG = {-1, 8, 9, 32, 33, -32, Integer.MAX_VALUE, Integer.MIN_VALUE};

    private static final Due due = new Due();

    public static void main(String[] args) {
        newObject();
        thing();
        arrow();
        arrowRefused();
        cut();
        turn();
        turnRefused();
        book();
        booked();
        told();
        weight();
        weightUnderDeed();
        settings();
        chance();
        aboveAndBelow();
        bars();
        barsRefused();
        least();
        leastOrder();
        fit();
        fitRefused();
        agrees();
        agreesExactly();
        agreesRefused();
        alike();
        fixed();
        otherwise();
        otherwiseRefused();
        draw();
        count();
        due.end();
    }

    private static void newObject() {
        MadeItSo x = new MadeItSo();
        due.same("new: count(0)", x.count(0), 0);
        due.same("new: count(1)", x.count(1), 0);
        due.same("new: count(2)", x.count(2), 0);
        due.same("new: weight(0, 0)", x.weight(0, 0), 1);
        due.same("new: weight(1, 0)", x.weight(1, 0), MadeItSo.NONE);
        due.same("new: above()", x.above(), 0);
        due.same("new: below()", x.below(), 1);
        due.same("new: chance(0, 0, 0)", x.chance(0, 0, 0), 1);
        due.same("new: above() behind chance", x.above(), 1);
        due.same("new: alike()", x.alike(), 1);
        due.same("new: draw(1, 0)", x.draw(1, 0), 0);
        due.same("new: bars(0, 0, 0)", x.bars(0, 0, 0), true);
        due.same("new: bars(1, 0, 0)", x.bars(1, 0, 0), false);
        due.same("new: told(0, 0)", x.told(0, 0), MadeItSo.NONE);
        due.same("new: arrow(0, 1)", x.arrow(0, 1), false);
        due.same("new: otherwise(0, 1, 0)", x.otherwise(0, 1, 0), MadeItSo.NONE);
        new MadeItSo().thing(true);
        due.same("new: another object's thing", x.count(0), 0);
        due.same("NONE", MadeItSo.NONE, -1);
    }

    private static void thing() {
        MadeItSo x = new MadeItSo();
        for (int k = 0; k < 8; k++) {
            due.same("thing " + k, x.thing(k % 3 == 0), k);
            due.same("booked of thing " + k, x.booked(k, 0), 50);
            due.same("no ROW 1 of thing " + k, x.booked(k, 1), MadeItSo.NONE);
        }
        due.same("seen of 8", x.count(2), 1 + 8 + 64);
        due.same("ninth thing", x.thing(true), MadeItSo.NONE);
        due.same("ninth thing unseen", x.thing(false), MadeItSo.NONE);
        due.same("things behind it", x.count(0), 8);
        due.same("seen behind it", x.count(2), 1 + 8 + 64);
    }

    private static void arrow() {
        MadeItSo x = Made.drawn(4, 2, 0, 1, 0);
        due.same("arrow: parents", x.told(0, 1), 6);
        x.book(0, 2, 7);
        x.book(1, 0, 8);
        due.same("arrow to one with a BOOK", x.arrow(3, 0), true);
        due.same("arrow: count", x.count(1), 3);
        for (int row = 0; row < 8; row++) {
            due.same("arrow: its BOOK is as at first, row " + row, x.booked(0, row), 50);
        }
        due.same("arrow: no more rows", x.booked(0, 8), MadeItSo.NONE);
        due.same("arrow: another's BOOK stays", x.booked(1, 0), 8);
        due.same("arrow from one with a BOOK", x.arrow(1, 3), true);
        due.same("arrow: the BOOK of where it comes from stays", x.booked(1, 0), 8);
    }

    private static void arrowRefused() {
        MadeItSo x = Made.drawn(5, 0, 1, 1, 2, 2, 3);
        x.book(0, 0, 9);
        x.book(3, 1, 9);
        due.same("arrow that is there", x.arrow(0, 1), false);
        due.same("arrow against one", x.arrow(1, 0), false);
        due.same("arrow round by three", x.arrow(2, 0), false);
        due.same("arrow round by four", x.arrow(3, 0), false);
        due.same("arrow to itself", x.arrow(4, 4), false);
        for (int no : WRONG) {
            due.same("arrow(0, " + no + ")", x.arrow(0, no), false);
            due.same("arrow(" + no + ", 0)", x.arrow(no, 0), false);
            due.same("arrow(" + no + ", " + no + ")", x.arrow(no, no), false);
        }
        due.same("arrow(0, 5): no such THING yet", x.arrow(0, 5), false);
        due.same("refused arrows: count", x.count(1), 3);
        due.same("refused arrows: BOOK of 0", x.booked(0, 0), 9);
        due.same("refused arrows: BOOK of 3", x.booked(3, 1), 9);
        due.same("arrow past others", x.arrow(0, 3), true);
        due.same("arrow from one alone", x.arrow(4, 0), true);
        due.same("arrow round by the new one", x.arrow(3, 4), false);
    }

    private static void cut() {
        MadeItSo x = Made.drawn(3, 0, 2, 1, 2);
        x.book(2, 0, 1);
        x.book(2, 3, 3);
        x.book(0, 0, 4);
        due.same("cut against", x.cut(2, 0), false);
        due.same("cut none", x.cut(0, 1), false);
        for (int no : WRONG) {
            due.same("cut(0, " + no + ")", x.cut(0, no), false);
            due.same("cut(" + no + ", 2)", x.cut(no, 2), false);
        }
        due.same("refused cuts: BOOK", x.booked(2, 3), 3);
        due.same("cut", x.cut(0, 2), true);
        due.same("cut: parents", x.told(2, 1), 2);
        due.same("cut: children", x.told(0, 2), 0);
        due.same("cut: count", x.count(1), 1);
        due.same("cut: BOOK row 0", x.booked(2, 0), 50);
        due.same("cut: BOOK row 1", x.booked(2, 1), 50);
        due.same("cut: BOOK row 2", x.booked(2, 2), MadeItSo.NONE);
        due.same("cut: the other's BOOK", x.booked(0, 0), 4);
        due.same("cut twice", x.cut(0, 2), false);
        due.same("arrow the other way then", x.arrow(2, 0), true);
    }

    private static void turn() {
        MadeItSo x = Made.drawn(3, 0, 1, 2, 1);
        x.book(0, 0, 11);
        x.book(1, 0, 14);
        x.book(1, 1, 15);
        x.book(1, 3, 12);
        x.book(2, 0, 13);
        due.same("turn", x.turn(0, 1), true);
        due.same("turn: parents of 0", x.told(0, 1), 2);
        due.same("turn: parents of 1", x.told(1, 1), 4);
        due.same("turn: count", x.count(1), 2);
        due.same("turn: BOOK of 0, row 0", x.booked(0, 0), 50);
        due.same("turn: BOOK of 0, row 1", x.booked(0, 1), 50);
        due.same("turn: BOOK of 1, row 0", x.booked(1, 0), 50);
        due.same("turn: BOOK of 1, row 1", x.booked(1, 1), 50);
        due.same("turn: BOOK of 1, row 2", x.booked(1, 2), MadeItSo.NONE);
        due.same("turn: BOOK of 2", x.booked(2, 0), 13);
        due.same("turn the same again", x.turn(0, 1), false);
        due.same("turn back", x.turn(1, 0), true);
        due.same("turn back: parents of 1", x.told(1, 1), 5);
    }

    private static void turnRefused() {
        MadeItSo x = Made.drawn(4, 0, 1, 1, 2, 0, 2);
        x.book(0, 0, 21);
        x.book(2, 3, 22);
        due.same("turn that leads round", x.turn(0, 2), false);
        due.same("turn none", x.turn(0, 3), false);
        due.same("turn against", x.turn(2, 0), false);
        for (int no : WRONG) {
            due.same("turn(0, " + no + ")", x.turn(0, no), false);
            due.same("turn(" + no + ", 2)", x.turn(no, 2), false);
        }
        due.same("refused turns: parents", x.told(2, 1), 3);
        due.same("refused turns: children", x.told(0, 2), 6);
        due.same("refused turns: count", x.count(1), 3);
        due.same("refused turns: BOOK of 0", x.booked(0, 0), 21);
        due.same("refused turns: BOOK of 2", x.booked(2, 3), 22);
        due.same("turn(0, 1)", x.turn(0, 1), true);
        due.same("turn(0, 2) now leads round no more", x.turn(0, 2), true);
    }

    private static void book() {
        MadeItSo x = Made.drawn(3, 1, 0, 2, 0);
        for (int row = 0; row < 4; row++) {
            due.same("book row " + row, x.book(0, row, 10 * row), true);
        }
        due.same("book 100", x.book(1, 0, 100), true);
        due.same("book 0", x.book(2, 0, 0), true);
        due.same("book 101", x.book(1, 0, 101), false);
        due.same("book -1", x.book(1, 0, -1), false);
        due.same("book row -1", x.book(0, -1, 5), false);
        due.same("book row 4", x.book(0, 4, 5), false);
        due.same("book row 1 without PARENTS", x.book(1, 1, 5), false);
        due.same("book thing 3", x.book(3, 0, 5), false);
        for (int no : WRONG) {
            due.same("book(" + no + ", 0, 5)", x.book(no, 0, 5), false);
            due.same("book(0, " + no + ", 5)", x.book(0, no, 5), false);
        }
        due.same("book of most parts", x.book(0, 0, Integer.MAX_VALUE), false);
        for (int row = 0; row < 4; row++) {
            due.same("booked row " + row, x.booked(0, row), 10 * row);
        }
        due.same("booked 100", x.booked(1, 0), 100);
        due.same("booked 0", x.booked(2, 0), 0);
    }

    private static void booked() {
        MadeItSo x = Made.drawn(8, 0, 4, 1, 4, 2, 4, 3, 4, 5, 4, 6, 4, 7, 4);
        due.same("booked row 127", x.booked(4, 127), 50);
        due.same("booked row 128", x.booked(4, 128), MadeItSo.NONE);
        due.same("book row 127", x.book(4, 127, 1), true);
        due.same("book of the next THING is another", x.book(5, 0, 2), true);
        due.same("booked row 127 again", x.booked(4, 127), 1);
        for (int no : WRONG) {
            due.same("booked(" + no + ", 0)", x.booked(no, 0), MadeItSo.NONE);
            due.same("booked(5, " + no + ")", x.booked(5, no), MadeItSo.NONE);
        }
        // bit 0 is PARENT 1, bit 1 is PARENT 3, in whatever order they came
        MadeItSo y = Made.drawn(4, 3, 0, 1, 0);
        y.book(0, 1, 100);
        y.book(0, 0, 0);
        y.book(0, 2, 0);
        y.book(0, 3, 0);
        due.same("ROW 1 is that of PARENT 1", y.weight(Made.is(0, 1) | Made.is(1, 1) | Made.is(3, 0), 0), 100 * 50 * 50 * 100);
        due.same("ROW 2 is that of PARENT 3", y.weight(Made.is(0, 1) | Made.is(1, 0) | Made.is(3, 1), 0), 0);
    }

    private static void told() {
        MadeItSo x = Made.drawn(5, 3, 1, 1, 0, 3, 2);
        x.thing(false);
        due.same("told seen", x.told(0, 0), 1);
        due.same("told unseen", x.told(5, 0), 0);
        due.same("told parents", x.told(0, 1), 2);
        due.same("told no parents", x.told(3, 1), 0);
        due.same("told children", x.told(3, 2), 6);
        due.same("told below", x.told(3, 3), 7);
        due.same("told below of the last", x.told(0, 3), 0);
        due.same("told below of one alone", x.told(4, 3), 0);
        for (int no : new int[] {-1, 4, 5, Integer.MIN_VALUE}) {
            due.same("told(0, " + no + ")", x.told(0, no), MadeItSo.NONE);
        }
        for (int no : WRONG) {
            due.same("told(" + no + ", 0)", x.told(no, 0), MadeItSo.NONE);
            due.same("told(" + no + ", 3)", x.told(no, 3), MadeItSo.NONE);
        }
        MadeItSo y = Made.drawn(8, 0, 1, 1, 2, 2, 3, 3, 4, 4, 5, 5, 6, 6, 7);
        due.same("told below of a long row", y.told(0, 3), 254);
        MadeItSo z = Made.drawn(8, 7, 6, 6, 5, 5, 4, 4, 3, 3, 2, 2, 1, 1, 0);
        due.same("told below of a long row downward", z.told(7, 3), 127);
    }

    private static void weight() {
        MadeItSo x = Made.pair();
        due.same("weight of all", x.weight(0, 0), 10000);
        due.same("weight 00", x.weight(Made.is(0, 0) | Made.is(1, 0), 0), 5600);
        due.same("weight 10", x.weight(Made.is(0, 1) | Made.is(1, 0), 0), 300);
        due.same("weight 01", x.weight(Made.is(0, 0) | Made.is(1, 1), 0), 1400);
        due.same("weight 11", x.weight(Made.is(0, 1) | Made.is(1, 1), 0), 2700);
        due.same("weight 1 is 1", x.weight(Made.is(1, 1), 0), 4100);
        due.same("weight 0 is 0", x.weight(Made.is(0, 0), 0), 7000);
        x.thing(false);
        due.same("weight with one more", x.weight(Made.is(1, 1), 0), 410000);
        MadeItSo y = Made.drawn(8);
        due.same("weight of 8", y.weight(0, 0), 10000000000000000L);
        for (int k = 0; k < 8; k++) {
            y.book(k, 0, 100);
        }
        due.same("weight of one CASE of 8", y.weight(65535, 0), 10000000000000000L);
        due.same("weight of another", y.weight(65279 & ~128 & ~32768, 0), 0);
    }

    private static void weightUnderDeed() {
        MadeItSo x = Made.pair();
        due.same("deed on 0", x.weight(Made.is(1, 1), Made.is(0, 1)), 9000);
        due.same("deed on 0, the other", x.weight(Made.is(1, 1), Made.is(0, 0)), 2000);
        due.same("deed on 1 tells nothing of 0", x.weight(Made.is(0, 1), Made.is(1, 1)), 3000);
        due.same("deed and SETTING otherwise", x.weight(Made.is(0, 1), Made.is(0, 0)), 0);
        due.same("deed and SETTING the same", x.weight(Made.is(0, 1), Made.is(0, 1)), 10000);
        due.same("deed on both", x.weight(Made.is(0, 1) | Made.is(1, 0), Made.is(0, 1) | Made.is(1, 0)), 10000);
        x.book(0, 0, 0);
        due.same("deed that the BOOK says never", x.weight(Made.is(1, 1), Made.is(0, 1)), 9000);
        due.same("all under it", x.weight(0, Made.is(0, 1)), 10000);
    }

    private static void settings() {
        MadeItSo x = Made.pair();
        int[] none = {4, 128, 256, 512, 1 | 512, 2 | 256, 1024, 65535, 65536, 65536 | 1, 1 << 30, -1, -65536, Integer.MIN_VALUE};
        for (int no : none) {
            due.same("weight(" + no + ", 0)", x.weight(no, 0), MadeItSo.NONE);
            due.same("weight(0, " + no + ")", x.weight(0, no), MadeItSo.NONE);
            due.same("draw(1, " + no + ")", x.draw(1, no), MadeItSo.NONE);
            due.same("chance(" + no + ", 0, 0)", x.chance(no, 0, 0), MadeItSo.NONE);
            due.same("chance(0, " + no + ", 0)", x.chance(0, no, 0), MadeItSo.NONE);
            due.same("chance(0, 0, " + no + ")", x.chance(0, 0, no), MadeItSo.NONE);
        }
    }

    private static void chance() {
        MadeItSo x = Made.pair();
        due.fraction(x, Made.is(0, 1), Made.is(1, 1), 0, 27, 41);
        due.fraction(x, Made.is(1, 1), Made.is(0, 1), 0, 9, 10);
        due.fraction(x, Made.is(0, 1), Made.is(1, 1), Made.is(1, 1), 3, 10);
        due.fraction(x, Made.is(0, 1), 0, Made.is(1, 1), 3, 10);
        due.fraction(x, Made.is(1, 1), 0, 0, 41, 100);
        due.fraction(x, Made.is(0, 1), Made.is(0, 0), 0, 0, 1);
        due.fraction(x, Made.is(0, 1), Made.is(0, 1), 0, 1, 1);
        due.fraction(x, 0, Made.is(0, 1), 0, 1, 1);
        due.fraction(x, Made.is(0, 1) | Made.is(1, 1), Made.is(1, 1), 0, 27, 41);
        due.fraction(x, Made.is(0, 1) | Made.is(1, 0), Made.is(1, 1), 0, 0, 1);
        due.same("chance given what the deed bars", x.chance(Made.is(1, 1), Made.is(0, 1), Made.is(0, 0)), 0);
        x.book(0, 0, 0);
        due.same("chance given what never is", x.chance(Made.is(1, 1), Made.is(0, 1), 0), 0);
        due.same("chance of nothing given what never is", x.chance(0, Made.is(0, 1), 0), 0);
        due.same("chance NONE goes ahead of 0", x.chance(4, Made.is(0, 1), 0), MadeItSo.NONE);
    }

    private static void aboveAndBelow() {
        MadeItSo x = Made.pair();
        due.fraction(x, Made.is(0, 1), Made.is(1, 1), 0, 27, 41);
        x.book(0, 0, 90);
        x.weight(0, 0);
        x.cut(0, 1);
        due.same("above() stays what the latest was", x.above(), 27);
        due.same("below() stays what the latest was", x.below(), 41);
        due.same("chance NONE", x.chance(-1, 0, 0), MadeItSo.NONE);
        due.same("above() behind NONE", x.above(), 0);
        due.same("below() behind NONE", x.below(), 1);
        due.fraction(x, Made.is(0, 1), 0, 0, 9, 10);
        x.book(1, 0, 0);
        due.same("chance 0", x.chance(Made.is(0, 1), Made.is(1, 1), 0), 0);
        due.same("above() behind 0", x.above(), 0);
        due.same("below() behind 0", x.below(), 1);
    }

    private static void bars() {
        MadeItSo chain = Made.drawn(3, 0, 1, 1, 2);
        due.same("chain, nothing known", chain.bars(1, 4, 0), false);
        due.same("chain, the middle known", chain.bars(1, 4, 2), true);
        due.same("chain against", chain.bars(4, 1, 2), true);
        MadeItSo fork = Made.drawn(3, 1, 0, 1, 2);
        due.same("fork, nothing known", fork.bars(1, 4, 0), false);
        due.same("fork, the middle known", fork.bars(1, 4, 2), true);
        MadeItSo meeting = Made.drawn(5, 0, 1, 2, 1, 1, 3, 3, 4);
        due.same("meeting, nothing known", meeting.bars(1, 4, 0), true);
        due.same("meeting known", meeting.bars(1, 4, 2), false);
        due.same("one far below a meeting known", meeting.bars(1, 4, 16), false);
        due.same("two of which one is open", meeting.bars(1 | 4, 8, 0), false);
        due.same("meeting and its child", meeting.bars(1 | 4, 8, 2), true);
        due.same("one behind the other side", meeting.bars(1, 4 | 8, 0), false);
        // a way through a thing of the same heap is a way all the same
        due.same("way through one of its own", Made.drawn(3, 0, 1, 1, 2).bars(1 | 2, 4, 0), false);
        due.same("no thing", meeting.bars(0, 1, 0), true);
        due.same("nothing at all", meeting.bars(0, 0, 31), true);
        due.same("joined ones", Made.drawn(2, 0, 1).bars(1, 2, 0), false);
        due.same("not joined", Made.drawn(2).bars(1, 2, 0), true);
        // a meeting that is open by a THING below it, behind which the way goes on
        MadeItSo m = Made.drawn(6, 0, 2, 1, 2, 1, 3, 4, 3, 2, 5);
        due.same("two meetings, one open", m.bars(1, 16, 32), true);
        due.same("two meetings, both open", m.bars(1, 16, 32 | 8), false);
        due.same("both open, but the fork known", m.bars(1, 16, 32 | 8 | 2), true);
    }

    private static void barsRefused() {
        MadeItSo x = Made.drawn(3);
        due.same("bars: no ARROWS", x.bars(1, 2, 4), true);
        due.same("bars: a and b share", x.bars(3, 2, 4), false);
        due.same("bars: a and z share", x.bars(1, 2, 5), false);
        due.same("bars: b and z share", x.bars(1, 2, 6), false);
        for (int no : new int[] {8, 128, 256, 1 << 16, -1, -8, Integer.MIN_VALUE}) {
            due.same("bars(" + no + ", 0, 0)", x.bars(no, 0, 0), false);
            due.same("bars(0, " + no + ", 0)", x.bars(0, no, 0), false);
            due.same("bars(0, 0, " + no + ")", x.bars(0, 0, no), false);
        }
    }

    private static void least() {
        MadeItSo x = Made.drawn(4, 0, 1, 1, 3, 0, 2, 2, 3);
        due.same("least of a diamond", x.least(0, 3), 1);
        due.same("leastAt of a diamond", x.leastAt(0, 3, 0), 6);
        due.same("least of its sides", x.least(1, 2), 1);
        due.same("leastAt of its sides", x.leastAt(2, 1, 0), 1);
        due.same("least of joined ones", x.least(0, 1), 0);
        due.same("leastAt of joined ones", x.leastAt(0, 1, 0), MadeItSo.NONE);
        due.same("least of ones apart", Made.drawn(3).least(0, 1), 1);
        due.same("leastAt of ones apart", Made.drawn(3).leastAt(0, 1, 0), 0);
        for (int no : WRONG) {
            due.same("least(0, " + no + ")", x.least(0, no), MadeItSo.NONE);
            due.same("least(" + no + ", 0)", x.least(no, 0), MadeItSo.NONE);
            due.same("leastAt(" + no + ", 3, 0)", x.leastAt(no, 3, 0), MadeItSo.NONE);
            due.same("leastAt(0, " + no + ", 0)", x.leastAt(0, no, 0), MadeItSo.NONE);
            due.same("leastAt(0, 3, " + no + ")", x.leastAt(0, 3, no), MadeItSo.NONE);
        }
        due.same("least(4, 0)", x.least(4, 0), MadeItSo.NONE);
        due.same("least of one", x.least(2, 2), MadeItSo.NONE);
        due.same("leastAt of one", x.leastAt(2, 2, 0), MadeItSo.NONE);
        MadeItSo y = new MadeItSo();
        y.thing(true);
        y.thing(false);
        y.thing(false);
        y.thing(true);
        y.arrow(0, 1);
        y.arrow(1, 2);
        due.same("least through what is not seen", y.least(0, 2), 0);
        due.same("least for ones not seen", y.least(1, 3), 1);
    }

    private static void leastOrder() {
        // 0 to 7 by two rows of three; a heap has one of each row
        MadeItSo x = Made.drawn(8, 0, 1, 1, 2, 2, 3, 3, 7, 0, 4, 4, 5, 5, 6, 6, 7);
        int[] heaps = {2 | 16, 4 | 16, 8 | 16, 2 | 32, 4 | 32, 8 | 32, 2 | 64, 4 | 64, 8 | 64};
        due.same("least of two rows", x.least(0, 7), heaps.length);
        for (int i = 0; i < heaps.length; i++) {
            due.same("leastAt of two rows, " + i, x.leastAt(0, 7, i), heaps[i]);
            due.same("leastAt the other way, " + i, x.leastAt(7, 0, i), heaps[i]);
        }
        due.same("leastAt behind the last", x.leastAt(0, 7, heaps.length), MadeItSo.NONE);
        // a part two smaller bars, though the parts one smaller do not: 2 is a meeting, 3 a fork behind it
        MadeItSo y = Made.drawn(5, 0, 2, 3, 2, 3, 1, 2, 4);
        due.same("least with the empty heap", y.least(0, 1), 1);
        due.same("leastAt with the empty heap", y.leastAt(0, 1, 0), 0);
        due.same("a meeting and the fork bar, too", y.bars(1, 2, 4 | 8), true);
        due.same("the meeting alone does not", y.bars(1, 2, 4), false);
    }

    private static void fit() {
        MadeItSo x = Made.drawn(4, 2, 0, 2, 1, 0, 1, 1, 3);
        due.same("fit: the common cause", x.fit(0, 1, 4), true);
        due.same("fit: without it", x.fit(0, 1, 0), false);
        due.same("fit: one behind the outcome", x.fit(0, 1, 4 | 8), false);
        due.same("fit: not below, barred", x.fit(3, 0, 2 | 4), true);
        due.same("fit: not below, not barred", x.fit(1, 0, 4), false);
        due.same("fit: a far outcome", x.fit(0, 3, 4), true);
        due.same("fit: one on the road", x.fit(0, 3, 4 | 2), false);
        // 0 to 1 by 2; 3 below 2; 4 below 0 alone
        MadeItSo y = Made.drawn(5, 0, 2, 2, 1, 2, 3, 0, 4);
        due.same("fit: nothing", y.fit(0, 1, 0), true);
        due.same("fit: one on the road, y", y.fit(0, 1, 4), false);
        due.same("fit: one below the road", y.fit(0, 1, 8), false);
        due.same("fit: one below the deed, off the road", y.fit(0, 1, 16), true);
        // arrows from 0 that do not lead to the road stay: 0 to 2 from 3, 3 to 1
        MadeItSo m = Made.drawn(4, 0, 1, 0, 2, 3, 2, 3, 1);
        due.same("fit: a meeting off the road opens", m.fit(0, 1, 4), false);
        due.same("fit: the meeting with its other parent", m.fit(0, 1, 4 | 8), true);
        MadeItSo u = new MadeItSo();
        u.thing(true);
        u.thing(true);
        u.thing(false);
        u.arrow(2, 0);
        u.arrow(2, 1);
        u.arrow(0, 1);
        due.same("fit: one not seen", u.fit(0, 1, 4), false);
        MadeItSo w = new MadeItSo();
        w.thing(false);
        w.thing(false);
        w.arrow(0, 1);
        due.same("fit: deed and outcome may be not seen", w.fit(0, 1, 0), true);
    }

    private static void fitRefused() {
        MadeItSo x = Made.drawn(3);
        due.same("fit: all apart", x.fit(0, 1, 4), true);
        due.same("fit: z has a", x.fit(0, 1, 1), false);
        due.same("fit: z has b", x.fit(0, 1, 2), false);
        due.same("fit: one deed and outcome", x.fit(0, 0, 4), false);
        for (int no : WRONG) {
            due.same("fit(" + no + ", 1, 0)", x.fit(no, 1, 0), false);
            due.same("fit(0, " + no + ", 0)", x.fit(0, no, 0), false);
        }
        for (int no : new int[] {8, 12, 256, -1, -8, Integer.MIN_VALUE}) {
            due.same("fit(0, 1, " + no + ")", x.fit(0, 1, no), false);
        }
    }

    private static void agrees() {
        MadeItSo x = Made.drawn(3, 2, 0, 2, 1, 0, 1);
        x.book(2, 0, 40);
        x.book(0, 0, 20);
        x.book(0, 1, 70);
        x.book(1, 0, 10);
        x.book(1, 1, 30);
        x.book(1, 2, 60);
        x.book(1, 3, 90);
        for (int u = 0; u < 2; u++) {
            for (int v = 0; v < 2; v++) {
                due.same("agrees: the common cause " + u + v, x.agrees(0, 1, 4, u, v), 1);
                due.same("agrees: without it " + u + v, x.agrees(0, 1, 0, u, v), 0);
            }
        }
        MadeItSo pair = Made.pair();
        due.same("agrees: forward", pair.agrees(0, 1, 0, 1, 1), 1);
        due.same("agrees: backward", pair.agrees(1, 0, 0, 1, 1), 0);
        pair.book(0, 0, 100);
        due.same("agrees: can't be told", pair.agrees(0, 1, 0, 0, 1), -2);
        due.same("agrees: the other can", pair.agrees(0, 1, 0, 1, 1), 1);
        MadeItSo never = Made.drawn(3, 2, 0, 0, 1);
        never.book(2, 0, 100);
        never.book(0, 0, 0);
        due.same("agrees: what has no WEIGHT does not count", never.agrees(0, 1, 4, 1, 1), 1);
        never.book(2, 0, 99);
        due.same("agrees: what has little does", never.agrees(0, 1, 4, 1, 1), -2);
        MadeItSo hidden = new MadeItSo();
        hidden.thing(true);
        hidden.thing(true);
        hidden.thing(false);
        hidden.arrow(2, 0);
        due.same("agrees: z may be not seen", hidden.agrees(0, 1, 4, 1, 0), 1);
    }

    /** 64 SETTINGS whose bottoms have little in common, and a sum that is just right or off by little. */
    private static void agreesExactly() {
        MadeItSo x = Made.drawn(8, 2, 0, 3, 0, 4, 0, 5, 0, 6, 0, 7, 0, 2, 1, 3, 1, 4, 1, 5, 1, 6, 1, 7, 1);
        due.same("agrees exactly: arrow", x.arrow(0, 1), true);
        for (int row = 0; row < 64; row++) {
            x.book(0, row, 1 + (row * 37 + 5) % 99);
        }
        for (int row = 0; row < 128; row++) {
            x.book(1, row, 1 + (row * 53 + 11) % 99);
        }
        for (int k = 2; k < 8; k++) {
            x.book(k, 0, 7 + 11 * k);
        }
        due.same("agrees exactly: all causes", x.agrees(0, 1, 252, 1, 1), 1);
        due.same("agrees exactly: all but one", x.agrees(0, 1, 124, 1, 1), 0);
        due.same("agrees exactly: none", x.agrees(0, 1, 0, 0, 0), 0);
        due.same("agrees exactly: all causes again", x.agrees(0, 1, 252, 0, 1), 1);
        // 2 tells the least bit of 1 alone, and of 0: one part of a hundred in one ROW
        MadeItSo y = Made.drawn(3, 2, 0, 0, 1, 2, 1);
        y.book(2, 0, 1);
        y.book(0, 0, 50);
        y.book(0, 1, 51);
        due.same("agrees exactly: 2 does not tell of 1 yet", y.agrees(0, 1, 0, 1, 1), 1);
        y.book(1, 3, 51);
        due.same("agrees exactly: off by one part", y.agrees(0, 1, 0, 1, 1), 0);
        due.same("agrees exactly: with it", y.agrees(0, 1, 4, 1, 1), 1);
    }

    private static void agreesRefused() {
        MadeItSo x = Made.drawn(3, 0, 1);
        due.same("agrees: as it should", x.agrees(0, 1, 4, 1, 1), 1);
        due.same("agrees: z has a", x.agrees(0, 1, 1, 1, 1), MadeItSo.NONE);
        due.same("agrees: z has b", x.agrees(0, 1, 6, 1, 1), MadeItSo.NONE);
        for (int no : new int[] {-1, 2, 3, 256, Integer.MIN_VALUE}) {
            due.same("agrees(0, 1, 4, " + no + ", 1)", x.agrees(0, 1, 4, no, 1), MadeItSo.NONE);
            due.same("agrees(0, 1, 4, 1, " + no + ")", x.agrees(0, 1, 4, 1, no), MadeItSo.NONE);
        }
        for (int no : WRONG) {
            due.same("agrees(" + no + ", 1, 0, 1, 1)", x.agrees(no, 1, 0, 1, 1), MadeItSo.NONE);
            due.same("agrees(0, " + no + ", 0, 1, 1)", x.agrees(0, no, 0, 1, 1), MadeItSo.NONE);
        }
        for (int no : new int[] {8, 12, 256, -1, -8, Integer.MIN_VALUE}) {
            due.same("agrees(0, 1, " + no + ", 1, 1)", x.agrees(0, 1, no, 1, 1), MadeItSo.NONE);
        }
        x.book(0, 0, 100);
        due.same("agrees: NONE goes ahead of -2", x.agrees(0, 1, 1, 0, 1), MadeItSo.NONE);
        // the document does not refuse one THING for both: no CASE has it 0 and 1
        MadeItSo one = Made.pair();
        due.same("agrees: one THING, the same", one.agrees(0, 0, 2, 1, 1), 1);
        due.same("agrees: one THING, otherwise", one.agrees(0, 0, 2, 1, 0), 1);
        one.book(0, 0, 0);
        due.same("agrees: one THING that never is", one.agrees(0, 0, 0, 1, 1), -2);
    }

    private static void alike() {
        due.same("alike: no ARROWS", Made.drawn(8).alike(), 1);
        due.same("alike: one ARROW", Made.drawn(2, 0, 1).alike(), 2);
        due.same("alike: a chain", Made.drawn(3, 0, 1, 1, 2).alike(), 3);
        due.same("alike: a meeting", Made.drawn(3, 0, 1, 2, 1).alike(), 1);
        due.same("alike: a fork", Made.drawn(3, 1, 0, 1, 2).alike(), 3);
        due.same("alike: a triangle", Made.drawn(3, 0, 1, 0, 2, 1, 2).alike(), 6);
        due.same("alike: a long row", Made.drawn(8, 0, 1, 1, 2, 2, 3, 3, 4, 4, 5, 5, 6, 6, 7).alike(), 8);
        due.same("alike: a star", Made.drawn(8, 3, 0, 3, 1, 3, 2, 3, 4, 3, 5, 3, 6, 3, 7).alike(), 8);
        due.same("alike: a star inward", Made.drawn(4, 0, 3, 1, 3, 2, 3).alike(), 1);
        due.same("alike: a diamond", Made.drawn(4, 0, 1, 0, 2, 1, 3, 2, 3).alike(), 3);
        due.same("alike: four pairs", Made.drawn(8, 0, 1, 2, 3, 4, 5, 6, 7).alike(), 16);
        due.same("alike: two triangles at an edge", Made.drawn(4, 0, 1, 0, 2, 1, 2, 1, 3, 2, 3).alike(), 10);
        due.same("alike: a meeting of joined ones", Made.drawn(3, 0, 2, 1, 2, 0, 1).alike(), 6);
    }

    private static void fixed() {
        MadeItSo x = Made.drawn(4, 0, 2, 1, 2, 2, 3);
        due.same("fixed: into a meeting", x.fixed(0, 2), true);
        due.same("fixed: behind a meeting", x.fixed(2, 3), true);
        due.same("fixed: against", x.fixed(2, 0), false);
        due.same("fixed: none such", x.fixed(0, 1), false);
        for (int no : WRONG) {
            due.same("fixed(" + no + ", 2)", x.fixed(no, 2), false);
            due.same("fixed(0, " + no + ")", x.fixed(0, no), false);
        }
        MadeItSo y = Made.drawn(4, 0, 1, 0, 2, 1, 3, 2, 3);
        due.same("fixed: a diamond's meeting", y.fixed(1, 3), true);
        due.same("fixed: a diamond's head", y.fixed(0, 1), false);
        // else it would lead round: 0 to 3 past 1 and 2
        MadeItSo m = Made.drawn(4, 0, 1, 0, 2, 1, 3, 2, 3, 0, 3);
        due.same("fixed: what would lead round otherwise", m.fixed(0, 3), true);
        due.same("fixed: its side", m.fixed(0, 1), false);
        due.same("fixed: one ARROW", Made.drawn(2, 0, 1).fixed(0, 1), false);
        int[] row = {0, 1, 1, 2, 2, 3, 3, 4};
        for (int k = 0; k < 4; k++) {
            due.same("fixed: of a row, " + k, Made.drawn(5, row).fixed(k, k + 1), false);
        }
    }

    private static void otherwise() {
        MadeItSo x = Made.pair();
        long[] forward = {7000, 8000, 2100, 2400, 2700};
        long[] backward = {0, 1700, 0, 1400, 2700};
        for (int what = 0; what < 5; what++) {
            due.same("otherwise(0, 1, " + what + ")", x.otherwise(0, 1, what), forward[what]);
            due.same("otherwise(1, 0, " + what + ")", x.otherwise(1, 0, what), backward[what]);
        }
        // 2 makes 1 the less likely the likelier it makes 0; D1 and D0 are both 5000 of 10000
        MadeItSo y = Made.drawn(3, 2, 0, 2, 1);
        y.book(0, 0, 0);
        y.book(0, 1, 100);
        y.book(1, 0, 100);
        y.book(1, 1, 0);
        long[] apart = {0, 0, 0, 0, 0};
        long[] with = {0, 0, 0, 0, 500000};
        for (int what = 0; what < 5; what++) {
            due.same("otherwise, never both: " + what, y.otherwise(0, 1, what), apart[what]);
        }
        y.book(1, 0, 0);
        y.book(1, 1, 100);
        for (int what = 0; what < 5; what++) {
            due.same("otherwise, always both: " + what, y.otherwise(0, 1, what), with[what]);
        }
        // 0 is always what 2 is; set by a deed it is so half the times
        MadeItSo z = Made.drawn(3, 2, 0, 2, 1, 0, 1);
        z.book(0, 0, 0);
        z.book(0, 1, 100);
        long[] never = {500000, 500000, 0, 0, 0};
        long[] always = {500000, 500000, 500000, 500000, 500000};
        for (int row = 0; row < 4; row++) {
            z.book(1, row, row == 1 || row == 2 ? 100 : 0);
        }
        for (int what = 0; what < 5; what++) {
            due.same("otherwise, seen never, done half: " + what, z.otherwise(0, 1, what), never[what]);
        }
        for (int row = 0; row < 4; row++) {
            z.book(1, row, row == 1 || row == 2 ? 0 : 100);
        }
        for (int what = 0; what < 5; what++) {
            due.same("otherwise, seen always, done half: " + what, z.otherwise(0, 1, what), always[what]);
        }
        MadeItSo one = Made.drawn(2, 0, 1);
        one.book(0, 0, 50);
        one.book(1, 0, 40);
        one.book(1, 1, 10);
        due.same("otherwise: less by the deed", one.otherwise(0, 1, 0), 0);
        due.same("otherwise: at most D1", one.otherwise(0, 1, 1), 1000);
        due.same("otherwise: need at least", one.otherwise(0, 1, 2), 0);
        due.same("otherwise: need at most all", one.otherwise(0, 1, 3), 500);
    }

    private static void otherwiseRefused() {
        MadeItSo x = Made.pair();
        for (int no : new int[] {-1, 5, 6, Integer.MAX_VALUE, Integer.MIN_VALUE}) {
            due.same("otherwise(0, 1, " + no + ")", x.otherwise(0, 1, no), MadeItSo.NONE);
        }
        for (int what = 0; what < 5; what++) {
            due.same("otherwise of one", x.otherwise(1, 1, what), MadeItSo.NONE);
            for (int no : WRONG) {
                due.same("otherwise(" + no + ", 1, " + what + ")", x.otherwise(no, 1, what), MadeItSo.NONE);
                due.same("otherwise(0, " + no + ", " + what + ")", x.otherwise(0, no, what), MadeItSo.NONE);
            }
        }
    }

    /** From the seed 1 on the four numbers modulo 100 are 38, 26, 13, 83. */
    private static void draw() {
        int[] numbers = {38, 26, 13, 83};
        for (int k = 0; k < 4; k++) {
            MadeItSo x = Made.drawn(4);
            for (int m = 0; m < 4; m++) {
                x.book(m, 0, 0);
            }
            x.book(k, 0, numbers[k]);
            due.same("draw: not less, " + k, x.draw(1, 0), 0);
            x.book(k, 0, numbers[k] + 1);
            due.same("draw: less, " + k, x.draw(1, 0), 1 << k);
        }
        // 2 comes first, then 0, then 1; then 3
        MadeItSo y = Made.drawn(4, 2, 0, 0, 1);
        y.book(2, 0, 39);
        y.book(0, 0, 0);
        y.book(0, 1, 27);
        y.book(1, 0, 0);
        y.book(1, 1, 14);
        y.book(3, 0, 84);
        due.same("draw: by turns", y.draw(1, 0), 15);
        due.same("draw: a deed that sets to 0", y.draw(1, Made.is(0, 0)), 4 | 8);
        due.same("draw: a deed that sets to 1", y.draw(1, Made.is(2, 1)), 15);
        due.same("draw: a deed on the first", y.draw(1, Made.is(2, 0)), 8);
        due.same("draw: a deed on all", y.draw(1, 15 | 10 << 8), 10);
        y.book(3, 0, 83);
        due.same("draw: the seed goes on past a deed", y.draw(1, 7 | 7 << 8), 7);
        // 3 leads to 0: of 1, 2, 3 the least number comes first, and 0 at once when 3 came
        MadeItSo z = Made.drawn(4, 3, 0);
        z.book(1, 0, 39);
        z.book(2, 0, 27);
        z.book(3, 0, 14);
        z.book(0, 1, 84);
        due.same("draw: least number first", z.draw(1, 0), 15);
        due.same("draw: deed that is none", z.draw(1, 16), MadeItSo.NONE);
        due.same("draw: deed below 0", z.draw(1, -1), MadeItSo.NONE);
    }

    private static void count() {
        MadeItSo x = Made.drawn(3, 0, 1, 2, 1);
        x.thing(false);
        due.same("count things", x.count(0), 4);
        due.same("count arrows", x.count(1), 2);
        due.same("count seen", x.count(2), 7);
        for (int no : new int[] {-1, 3, 4, Integer.MAX_VALUE, Integer.MIN_VALUE}) {
            due.same("count(" + no + ")", x.count(no), MadeItSo.NONE);
        }
    }
}
