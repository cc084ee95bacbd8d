/**
 * The edges of promises 13 to 16, 18 and 19 (what the drawing alone tells): empty HEAPS and those of all
 * THINGS, the longest WAYS, the last value that is taken and the first that is refused. Each test says the
 * document's words that it is about.
 */
public final class BarEdgesTest {
    private static final int NONE = MadeItSo.NONE;
    private static final int MOST = Made.MOST;
    private static final int LEAST_INT = Integer.MIN_VALUE;
    private static final int GREATEST_INT = Integer.MAX_VALUE;

    private static final Due due = new Due();

    public static void main(String[] args) {
        barsHeaps();
        barsInCommon();
        barsEmptyHeaps();
        barsHeapsOfAll();
        wayOfTwo();
        wayOfEight();
        wayOfEightMeetings();
        meetingHasOneBelow();
        meetingOnOneWayOnly();
        wayFromAnyToAny();
        leastThings();
        leastNoneAndEmpty();
        leastOfSeen();
        leastWithoutTheseTwo();
        leastNoSmallerPart();
        leastOfManyInOrder();
        leastAtNoneSuch();
        leastAtWrongThings();
        fitThings();
        fitHeaps();
        fitWithoutOneAnother();
        fitOfSeen();
        fitNotBelow();
        fitOnTheRoad();
        fitArrowsToTheRoad();
        fitOfTheFullOne();
        alikeEmptyAndFull();
        alikeSameThree();
        alikeLeadsRound();
        fixedNoneSuch();
        fixedOrNot();
        fixedOfTheFullOne();
        due.end();
    }

    private static void barsHeaps() {
        due.about("Promise 13: false if one is none");
        for (int things = 0; things <= MOST; things++) {
            MadeItSo x = Made.drawn(things);
            int all = Made.all(things);
            due.same("all of " + things + " first", x.bars(all, 0, 0), true);
            due.same("all of " + things + " second", x.bars(0, all, 0), true);
            due.same("all of " + things + " third", x.bars(0, 0, all), true);
            int[] none = {all + 1, 1 << 8, 1 << 15, 1 << 16, 1 << 30, -1, -256, LEAST_INT, GREATEST_INT};
            for (int no : none) {
                due.same("bars(" + no + ", 0, 0) of " + things, x.bars(no, 0, 0), false);
                due.same("bars(0, " + no + ", 0) of " + things, x.bars(0, no, 0), false);
                due.same("bars(0, 0, " + no + ") of " + things, x.bars(0, 0, no), false);
            }
        }
    }

    private static void barsInCommon() {
        due.about("Promise 13: or two have a THING in common");
        MadeItSo x = Made.drawn(MOST);
        for (int k = 0; k < MOST; k++) {
            int one = 1 << k;
            int next = 1 << (k + 1) % MOST;
            due.same("the first two have " + k, x.bars(one, one, 0), false);
            due.same("the first and third have " + k, x.bars(one, next, one), false);
            due.same("the last two have " + k, x.bars(next, one, one), false);
            due.same("one of many: " + k, x.bars(255, one, 0), false);
            due.same("one of many with the third: " + k, x.bars(0, 255 & ~next, one), false);
            due.same("none in common", x.bars(one, next, 255 & ~one & ~next), true);
        }
        due.same("all three are all", x.bars(255, 255, 255), false);
    }

    private static void barsEmptyHeaps() {
        due.about("if no WAY from a THING of one to one of the other is OPEN for z (an empty HEAP has no THING)");
        MadeItSo x = Made.dense(MOST);
        due.same("three empty ones", x.bars(0, 0, 0), true);
        for (int heap : new int[] {1, 128, 255}) {
            due.same("from " + heap + " to none", x.bars(heap, 0, 0), true);
            due.same("from none to " + heap, x.bars(0, heap, 0), true);
            due.same("from none to none for " + heap, x.bars(0, 0, heap), true);
        }
        due.same("all but one to none for one", x.bars(254, 0, 1), true);
    }

    private static void barsHeapsOfAll() {
        due.about("z BARS two HEAPS (HEAPS of all THINGS together)");
        MadeItSo apart = Made.drawn(MOST);
        MadeItSo dense = Made.dense(MOST);
        MadeItSo row = Made.row(MOST);
        for (int a = 1; a < 255; a += 11) {
            due.same("no ARROWS: " + a, apart.bars(a, 255 & ~a, 0), true);
            due.same("all ARROWS: " + a, dense.bars(a, 255 & ~a, 0), false);
        }
        due.same("even and odd of a row", row.bars(85, 170, 0), false);
        due.same("both ends of a row, all between", row.bars(1, 128, 126), true);
        due.same("the ends' halves, two between", row.bars(7, 224, 24), true);
        due.same("the ends' halves, none between", row.bars(15, 240, 0), false);
    }

    private static void wayOfTwo() {
        due.about("A WAY between two THINGS (side by side joined: none is between)");
        MadeItSo x = Made.drawn(MOST, 0, 7);
        due.same("joined, nothing known", x.bars(1, 128, 0), false);
        due.same("joined, all others known", x.bars(1, 128, 126), false);
        due.same("joined, against", x.bars(128, 1, 126), false);
        due.same("not joined", x.bars(1, 64, 0), true);
        x.cut(0, 7);
        due.same("no more joined", x.bars(1, 128, 0), true);
    }

    private static void wayOfEight() {
        due.about("A WAY is OPEN for a HEAP z, if .. no other is in z (eight THINGS, none a MEETING)");
        MadeItSo row = Made.row(MOST);
        MadeItSo fork = Made.drawn(MOST, 4, 3, 3, 2, 2, 1, 1, 0, 4, 5, 5, 6, 6, 7);
        for (MadeItSo x : new MadeItSo[] {row, fork}) {
            due.same("nothing known", x.bars(1, 128, 0), false);
            for (int k = 1; k < 7; k++) {
                due.same(k + " known", x.bars(1, 128, 1 << k), true);
                due.same(k + " known, against", x.bars(128, 1, 1 << k), true);
            }
            due.same("all between known", x.bars(1, 128, 126), true);
        }
    }

    private static void wayOfEightMeetings() {
        due.about("each MEETING is in z .. and no other is in z (eight THINGS, every second a MEETING)");
        MadeItSo x = Made.drawn(MOST, 0, 1, 2, 1, 2, 3, 4, 3, 4, 5, 6, 5, 6, 7);
        for (int z = 0; z < 128; z += 2) {
            due.same("z is " + z, x.bars(1, 128, z), z != 42);
            due.same("against, z is " + z, x.bars(128, 1, z), z != 42);
        }
    }

    private static void meetingHasOneBelow() {
        due.about("each MEETING is in z, or has one BELOW it in z");
        // 0 and 1 meet in 2, and a row leads down from 2 to 7
        MadeItSo x = Made.drawn(MOST, 0, 2, 1, 2, 2, 3, 3, 4, 4, 5, 5, 6, 6, 7);
        due.same("nothing known", x.bars(1, 2, 0), true);
        for (int k = 2; k < MOST; k++) {
            due.same(k + " known", x.bars(1, 2, 1 << k), false);
        }
        due.same("all below known", x.bars(1, 2, 252), false);
        x.cut(6, 7);
        due.same("7 is no more below", x.bars(1, 2, 128), true);
        due.same("6 is below still", x.bars(1, 2, 64), false);
        MadeItSo above = Made.drawn(4, 0, 2, 1, 2, 3, 2);
        due.same("one above the MEETING known", above.bars(1, 2, 8), true);
        MadeItSo end = Made.drawn(3, 0, 1, 1, 2);
        due.same("what is below an end is no MEETING", end.bars(1, 2, 4), false);
    }

    private static void meetingOnOneWayOnly() {
        due.about("On it a THING between is a MEETING, if both ARROWS lead to it");
        // 2 is a MEETING between 0 and 1, and none between 0 and 3
        MadeItSo x = Made.drawn(4, 0, 2, 1, 2, 2, 3);
        due.same("MEETING in z", x.bars(1, 2, 4), false);
        due.same("no MEETING in z", x.bars(1, 8, 4), true);
        due.same("no MEETING, not in z", x.bars(1, 8, 0), false);
        due.same("both WAYS, one open", x.bars(1, 2 | 8, 4), false);
        due.same("both WAYS, the other open", x.bars(1, 2 | 8, 0), false);
    }

    private static void wayFromAnyToAny() {
        due.about("if no WAY from a THING of one to one of the other is OPEN for z");
        MadeItSo x = Made.drawn(MOST, 3, 4);
        due.same("only the last of one, the first of the other", x.bars(15, 240, 0), false);
        due.same("without the last", x.bars(7, 240, 0), true);
        due.same("without the first", x.bars(15, 224, 0), true);
        MadeItSo inside = Made.row(3);
        due.same("through another of its own HEAP", inside.bars(1 | 2, 4, 0), false);
    }

    private static void leastThings() {
        due.about("Promise 14: NONE if there is no such one, or both are one");
        for (int things = 1; things <= MOST; things++) {
            MadeItSo x = Made.drawn(things);
            for (int no : new int[] {-1, things, 8, 32, -32, LEAST_INT, GREATEST_INT}) {
                due.same("least(0, " + no + ") of " + things, x.least(0, no), NONE);
                due.same("least(" + no + ", 0) of " + things, x.least(no, 0), NONE);
                due.same("least(" + no + ", " + no + ")", x.least(no, no), NONE);
            }
            for (int k = 0; k < things; k++) {
                due.same("least of " + k + " twice", x.least(k, k), NONE);
            }
            if (things > 1) {
                due.same("first and last of " + things, x.least(0, things - 1), 1);
                due.same("last and first of " + things, x.least(things - 1, 0), 1);
            }
        }
    }

    private static void leastNoneAndEmpty() {
        due.about("LEAST HEAPS: those .. that BAR them (none does, or the empty one does)");
        MadeItSo joined = Made.dense(MOST);
        MadeItSo apart = Made.drawn(MOST);
        for (int k = 1; k < MOST; k++) {
            due.same("joined: how many", joined.least(0, k), 0);
            due.same("joined: the first", joined.leastAt(0, k, 0), NONE);
            due.same("apart: how many", apart.least(0, k), 1);
            due.same("apart: the first is the empty HEAP", apart.leastAt(0, k, 0), 0);
            due.same("apart: the second", apart.leastAt(0, k, 1), NONE);
        }
    }

    private static void leastOfSeen() {
        due.about("those of SEEN THINGS");
        for (int seen = 0; seen < 32; seen++) {
            MadeItSo x = Made.seen(5, seen);
            for (int k = 0; k < 4; k++) {
                Made.join(x, k, k + 1);
            }
            int between = seen & 14;
            int found = 0;
            for (int k = 1; k < 4; k++) {
                if ((between >> k & 1) == 1) {
                    due.same("SEEN " + seen + ", the next", x.leastAt(0, 4, found), 1 << k);
                    found++;
                }
            }
            due.same("SEEN " + seen + ", how many", x.least(0, 4), found);
            due.same("SEEN " + seen + ", behind the last", x.leastAt(0, 4, found), NONE);
        }
    }

    private static void leastWithoutTheseTwo() {
        due.about("without these two");
        MadeItSo x = Made.row(3);
        due.same("neighbours", x.least(0, 1), 0);
        due.same("both ends", x.leastAt(0, 2, 0), 2);
        due.same("both ends, only one", x.least(0, 2), 1);
        due.same("two THINGS, no third", Made.drawn(2).leastAt(0, 1, 0), 0);
    }

    private static void leastNoSmallerPart() {
        due.about("and no smaller part of which does");
        // 0 and 1 meet in 2; 3 leads to 2 and 1: {2, 3} bars as well, but so does the empty HEAP
        MadeItSo x = Made.drawn(4, 0, 2, 3, 2, 3, 1);
        due.same("{2, 3} bars", x.bars(1, 2, 12), true);
        due.same("{2} does not", x.bars(1, 2, 4), false);
        due.same("how many", x.least(0, 1), 1);
        due.same("the empty HEAP", x.leastAt(0, 1, 0), 0);
        // two ways of one THING each: both are needed, and the two apart from them are not
        MadeItSo y = Made.drawn(6, 0, 2, 2, 1, 0, 3, 3, 1);
        due.same("how many of two ways", y.least(0, 1), 1);
        due.same("both", y.leastAt(0, 1, 0), 12);
        due.same("with others it bars, too", y.bars(1, 2, 60), true);
    }

    private static void leastOfManyInOrder() {
        due.about("They are in the order of their numbers");
        int[] heaps = {2 | 16, 4 | 16, 8 | 16, 2 | 32, 4 | 32, 8 | 32, 2 | 64, 4 | 64, 8 | 64};
        MadeItSo x = Made.drawn(MOST, 0, 1, 1, 2, 2, 3, 3, 7, 0, 4, 4, 5, 5, 6, 6, 7);
        due.same("how many", x.least(0, 7), heaps.length);
        for (int i = 0; i < heaps.length; i++) {
            due.same("leastAt " + i, x.leastAt(0, 7, i), heaps[i]);
        }
        MadeItSo six = Made.drawn(MOST, 0, 1, 0, 2, 0, 3, 0, 4, 0, 5, 0, 6, 1, 7, 2, 7, 3, 7, 4, 7, 5, 7, 6, 7);
        due.same("all six between: how many", six.least(0, 7), 1);
        due.same("all six between", six.leastAt(0, 7, 0), 126);
        MadeItSo row = Made.row(MOST);
        due.same("a row: how many", row.least(7, 0), 6);
        for (int i = 0; i < 6; i++) {
            due.same("a row: leastAt " + i, row.leastAt(7, 0, i), 2 << i);
        }
    }

    private static void leastAtNoneSuch() {
        due.about("Promise 15: The i-th of them (from 0 on); NONE if there is none such");
        MadeItSo x = Made.row(MOST);
        due.same("the first", x.leastAt(0, 7, 0), 2);
        due.same("the last", x.leastAt(0, 7, 5), 64);
        for (int no : new int[] {-1, 6, 7, 63, 64, 65, 256, -6, LEAST_INT, GREATEST_INT}) {
            due.same("leastAt(0, 7, " + no + ")", x.leastAt(0, 7, no), NONE);
            due.same("leastAt(0, 1, " + no + ")", x.leastAt(0, 1, no), NONE);
        }
        due.same("the first of none", x.leastAt(0, 1, 0), NONE);
        // what an earlier call found is not this one's
        due.same("least of many", x.least(0, 7), 6);
        due.same("the second of two with one between", x.leastAt(0, 2, 1), NONE);
    }

    private static void leastAtWrongThings() {
        due.about("Promise 15: NONE if there is none such (THINGS)");
        for (int things = 1; things <= MOST; things++) {
            MadeItSo x = Made.drawn(things);
            for (int no : new int[] {-1, things, 8, 32, -32, LEAST_INT, GREATEST_INT}) {
                due.same("leastAt(0, " + no + ", 0) of " + things, x.leastAt(0, no, 0), NONE);
                due.same("leastAt(" + no + ", 0, 0) of " + things, x.leastAt(no, 0, 0), NONE);
            }
            due.same("the last twice, of " + things, x.leastAt(things - 1, things - 1, 0), NONE);
        }
    }

    private static void fitThings() {
        due.about("Promise 16: false if one is none (a THING)");
        for (int things = 2; things <= MOST; things++) {
            MadeItSo x = Made.drawn(things);
            due.same("first and last of " + things, x.fit(0, things - 1, 0), true);
            due.same("last and first of " + things, x.fit(things - 1, 0, 0), true);
            for (int no : new int[] {-1, things, 8, 32, -32, LEAST_INT, GREATEST_INT}) {
                due.same("fit(0, " + no + ", 0) of " + things, x.fit(0, no, 0), false);
                due.same("fit(" + no + ", 0, 0) of " + things, x.fit(no, 0, 0), false);
                due.same("fit(" + no + ", " + no + ", 0) of " + things, x.fit(no, no, 0), false);
            }
        }
    }

    private static void fitHeaps() {
        due.about("Promise 16: false if one is none (a HEAP)");
        for (int things = 2; things <= MOST; things++) {
            MadeItSo x = Made.drawn(things);
            int last = things - 1;
            int rest = Made.all(things) & ~1 & ~(1 << last);
            due.same("the empty one", x.fit(0, last, 0), true);
            due.same("all others of " + things, x.fit(0, last, rest), true);
            for (int no : new int[] {1 << things, rest | 1 << things, 256, 1 << 16, LEAST_INT, -256}) {
                due.same("fit(0, last, " + no + ") of " + things, x.fit(0, last, no), false);
            }
        }
    }

    private static void fitWithoutOneAnother() {
        due.about("Promise 16: or they aren't without one another");
        MadeItSo x = Made.drawn(MOST);
        for (int k = 0; k < MOST; k++) {
            int next = (k + 1) % MOST;
            due.same("deed and outcome are one: " + k, x.fit(k, k, 0), false);
            due.same("z has the deed: " + k, x.fit(k, next, 1 << k), false);
            due.same("z has the outcome: " + k, x.fit(next, k, 1 << k), false);
            due.same("z has both", x.fit(k, next, 255), false);
            due.same("z has all others", x.fit(k, next, 255 & ~(1 << k) & ~(1 << next)), true);
        }
    }

    private static void fitOfSeen() {
        due.about("FIT: a HEAP z of SEEN THINGS, without a and b");
        for (int seen = 0; seen < 16; seen++) {
            MadeItSo x = Made.seen(4, seen);
            Made.join(x, 0, 1);
            for (int z = 0; z < 16; z += 4) {
                due.same("below, SEEN " + seen + ", z " + z, x.fit(0, 1, z), (z & ~seen) == 0);
                due.same("not below, SEEN " + seen + ", z " + z, x.fit(2, 1, z & 8), (z & 8 & ~seen) == 0);
            }
        }
    }

    private static void fitNotBelow() {
        due.about("if b is not BELOW a and z BARS them");
        MadeItSo x = Made.row(MOST);
        due.same("against a row, nothing known", x.fit(7, 0, 0), false);
        for (int k = 1; k < 7; k++) {
            due.same("against a row, " + k + " known", x.fit(7, 0, 1 << k), true);
        }
        due.same("against one ARROW", x.fit(1, 0, 0), false);
        MadeItSo meeting = Made.drawn(4, 0, 2, 1, 2, 2, 3);
        due.same("a MEETING not known", meeting.fit(0, 1, 0), true);
        due.same("a MEETING known", meeting.fit(0, 1, 4), false);
        due.same("one BELOW a MEETING known", meeting.fit(0, 1, 8), false);
    }

    private static void fitOnTheRoad() {
        due.about("none of z is ON THE ROAD, or BELOW one that is");
        // 0 to 7 by 1 and 2; 3 BELOW 2, 4 BELOW 7, 5 BELOW 0 alone, 6 apart
        MadeItSo x = Made.drawn(MOST, 0, 1, 1, 2, 2, 7, 2, 3, 7, 4, 0, 5);
        boolean[] may = {false, false, false, false, false, true, true, false};
        due.same("the empty HEAP", x.fit(0, 7, 0), true);
        for (int k = 1; k < 7; k++) {
            due.same(k + " in z", x.fit(0, 7, 1 << k), may[k]);
        }
        due.same("both that may be", x.fit(0, 7, 32 | 64), true);
        MadeItSo one = Made.drawn(3, 0, 1, 1, 2);
        due.same("b itself is ON THE ROAD: one BELOW it", one.fit(0, 1, 4), false);
        due.same("one ABOVE a is not", Made.drawn(3, 2, 0, 0, 1).fit(0, 1, 4), true);
    }

    private static void fitArrowsToTheRoad() {
        due.about("without those ARROWS from a that lead to one ON THE ROAD");
        // 0 to 1 straight and by 2; 3 is a MEETING of 0 and 4 off the road; 4 leads to 1
        MadeItSo x = Made.drawn(6, 0, 1, 0, 2, 2, 1, 0, 3, 4, 3, 4, 1, 3, 5);
        due.same("nothing known", x.fit(0, 1, 0), true);
        due.same("the MEETING off the road known", x.fit(0, 1, 8), false);
        due.same("one BELOW it known", x.fit(0, 1, 32), false);
        due.same("the MEETING and the other cause", x.fit(0, 1, 8 | 16), true);
        due.same("the other cause alone", x.fit(0, 1, 16), true);
        Made.join(x, 4, 0);
        due.same("a common cause, nothing known", x.fit(0, 1, 0), false);
        due.same("a common cause known", x.fit(0, 1, 16), true);
    }

    private static void fitOfTheFullOne() {
        due.about("FIT for a deed on a and an outcome b (the full drawing)");
        MadeItSo x = Made.dense(MOST);
        for (int a = 0; a < MOST; a++) {
            for (int b = a + 1; b < MOST; b++) {
                due.same("all ahead of " + a + " for " + b, x.fit(a, b, Made.all(a)), true);
                due.same("the other way", x.fit(b, a, Made.all(a)), false);
                due.same("nothing for " + a + " and " + b, x.fit(a, b, 0), a == 0);
            }
        }
    }

    private static void alikeEmptyAndFull() {
        due.about("Promise 18: How many DRAWINGS are ALIKE this one (itself counted)");
        int factorial = 1;
        for (int things = 0; things <= MOST; things++) {
            factorial *= Math.max(1, things);
            due.same("without ARROWS, " + things, Made.drawn(things).alike(), 1);
            due.same("with all ARROWS, " + things, Made.dense(things).alike(), factorial);
            due.same("a row of " + things, Made.row(things).alike(), Math.max(1, things));
        }
        due.same("one ARROW of eight THINGS", Made.drawn(MOST, 3, 6).alike(), 2);
    }

    private static void alikeSameThree() {
        due.about("the same three of which two that are not joined both lead to the third one");
        for (int to = 0; to < 3; to++) {
            due.same("two meet in " + to, Made.inward(3, to).alike(), 1);
        }
        due.same("two meet that are joined", Made.drawn(3, 0, 2, 1, 2, 0, 1).alike(), 6);
        due.same("seven meet", Made.inward(MOST, 5).alike(), 1);
        MadeItSo x = Made.inward(MOST, 7);
        Made.join(x, 0, 1);
        due.same("seven meet, two of them joined", x.alike(), 2);
        due.same("all but two joined", allButTwo().alike(), 720);
    }

    /** All ARROWS but the one from 0 to 1: they lead to all others, so each of these is a third one. */
    private static MadeItSo allButTwo() {
        MadeItSo x = Made.dense(MOST);
        x.cut(0, 1);
        return x;
    }

    private static void alikeLeadsRound() {
        due.about("none can come that would lead round (of those ALIKE)");
        // a round of four, drawn so that none meet but in 3: 3 keeps its two, the others turn like a row
        due.same("a round of four", Made.drawn(4, 0, 1, 0, 2, 1, 3, 2, 3).alike(), 3);
        due.same("a round of three", Made.drawn(3, 0, 1, 1, 2, 0, 2).alike(), 6);
        MadeItSo eight = Made.row(MOST);
        Made.join(eight, 0, 7);
        due.same("a round of eight", eight.alike(), 7);
    }

    private static void fixedNoneSuch() {
        due.about("Promise 19: false if there is none such");
        for (int things = 3; things <= MOST; things++) {
            int last = things - 1;
            MadeItSo x = Made.drawn(things, 0, last, 1, last);
            due.same("from the first to the last", x.fixed(0, last), true);
            due.same("against it", x.fixed(last, 0), false);
            due.same("not joined", x.fixed(0, 1), false);
            due.same("one to itself", x.fixed(0, 0) || x.fixed(last, last), false);
            for (int no : new int[] {-1, things, 8, 32, 32 + last, -32, LEAST_INT, GREATEST_INT}) {
                due.same("fixed(0, " + no + ") of " + things, x.fixed(0, no), false);
                due.same("fixed(" + no + ", last) of " + things, x.fixed(no, last), false);
            }
            due.same("cut", x.cut(0, last), true);
            due.same("when it is gone", x.fixed(0, last), false);
            due.same("the other when it is gone", x.fixed(1, last), false);
        }
    }

    private static void fixedOrNot() {
        due.about("An ARROW is FIXED, if it is in all that are ALIKE this one");
        due.same("one ARROW", Made.drawn(2, 0, 1).fixed(0, 1), false);
        MadeItSo row = Made.row(MOST);
        for (int k = 0; k < 7; k++) {
            due.same("of a row: " + k, row.fixed(k, k + 1), false);
        }
        MadeItSo in = Made.inward(MOST, 2);
        for (int k = 0; k < MOST; k++) {
            due.same("of seven that meet: " + k, in.fixed(k, 2), k != 2);
        }
        // 0 and 1 meet in 2, and a row leads on: all of it is fixed
        MadeItSo on = Made.drawn(MOST, 0, 2, 1, 2, 2, 3, 3, 4, 4, 5, 5, 6, 6, 7);
        for (int k = 2; k < 7; k++) {
            due.same("behind a MEETING: " + k, on.fixed(k, k + 1), true);
        }
        // 0 to 3 is fixed though nothing meets by it: else it would lead round
        MadeItSo past = Made.drawn(4, 0, 1, 0, 2, 1, 3, 2, 3, 0, 3);
        due.same("what would lead round otherwise", past.fixed(0, 3), true);
        due.same("its sides", past.fixed(0, 1) || past.fixed(0, 2), false);
    }

    private static void fixedOfTheFullOne() {
        due.about("An ARROW is FIXED, if it is in all that are ALIKE this one (the full drawing)");
        MadeItSo x = Made.dense(MOST);
        MadeItSo less = allButTwo();
        for (int from = 0; from < MOST; from++) {
            for (int to = 0; to < MOST; to++) {
                due.same("all joined: " + from + " to " + to, x.fixed(from, to), false);
                due.same("0 and 1 not joined: " + from + " to " + to, less.fixed(from, to), from < 2 && to >= 2);
            }
        }
    }
}
