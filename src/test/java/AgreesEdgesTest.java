/**
 * The edges of promises 17 and 20 (what a DEED makes, reckoned from what is seen): empty HEAPS and those of all
 * others, sums of fractions, the least WEIGHT above 0, each bound of OTHERWISE, the last value that is taken and
 * the first that is refused. Each test says the document's words that it is about.
 */
public final class AgreesEdgesTest {
    private static final int NONE = MadeItSo.NONE;
    private static final int MOST = Made.MOST;
    private static final int LEAST_INT = Integer.MIN_VALUE;
    private static final int GREATEST_INT = Integer.MAX_VALUE;
    private static final long HUNDRED_TO_8 = 10000000000000000L;

    private static final Due due = new Due();

    public static void main(String[] args) {
        agreesThings();
        agreesHeaps();
        agreesZeroOrOne();
        agreesEmptyAndFullHeap();
        agreesCannotBeTold();
        agreesOfLeastWeight();
        agreesByTheLeast();
        agreesOfFractions();
        agreesOfManyFractions();
        agreesOfNothing();
        otherwiseWhats();
        otherwiseThings();
        otherwiseEachBound();
        otherwiseOfTheFullOne();
        otherwiseNeverAndAlways();
        due.end();
    }

    private static void agreesThings() {
        due.about("Promise 17: NONE if one is none (a THING)");
        for (int things = 2; things <= MOST; things++) {
            MadeItSo x = Made.drawn(things);
            due.same("first and last of " + things, x.agrees(0, things - 1, 0, 1, 1), 1);
            due.same("last and first of " + things, x.agrees(things - 1, 0, 0, 1, 1), 1);
            for (int no : new int[] {-1, things, 8, 32, -32, LEAST_INT, GREATEST_INT}) {
                due.same("agrees(" + no + ", 0, ..) of " + things, x.agrees(no, 0, 0, 1, 1), NONE);
                due.same("agrees(0, " + no + ", ..) of " + things, x.agrees(0, no, 0, 1, 1), NONE);
            }
        }
    }

    private static void agreesHeaps() {
        due.about("Promise 17: NONE if one is none (a HEAP), z has a or b");
        for (int things = 2; things <= MOST; things++) {
            MadeItSo x = Made.drawn(things);
            int last = things - 1;
            int rest = Made.all(things) & ~1 & ~(1 << last);
            due.same("all others of " + things, x.agrees(0, last, rest, 1, 1), 1);
            due.same("z has a", x.agrees(0, last, rest | 1, 1, 1), NONE);
            due.same("z has b", x.agrees(0, last, rest | 1 << last, 1, 1), NONE);
            due.same("z has both", x.agrees(0, last, Made.all(things), 1, 1), NONE);
            due.same("z has a alone", x.agrees(last, 0, 1 << last, 1, 1), NONE);
            due.same("z has b alone", x.agrees(last, 0, 1, 1, 1), NONE);
            for (int no : new int[] {1 << things, rest | 1 << things, 256, 1 << 16, LEAST_INT, -2 & ~(1 << last)}) {
                due.same("agrees(0, last, " + no + ", ..) of " + things, x.agrees(0, last, no, 1, 1), NONE);
            }
        }
    }

    private static void agreesZeroOrOne() {
        due.about("Promise 17: or u or v is not 0 or 1");
        MadeItSo x = Made.pair();
        for (int u = 0; u < 2; u++) {
            for (int v = 0; v < 2; v++) {
                due.same("agrees(0, 1, 0, " + u + ", " + v + ")", x.agrees(0, 1, 0, u, v), 1);
                due.same("agrees(1, 0, 0, " + u + ", " + v + ")", x.agrees(1, 0, 0, u, v), 0);
            }
        }
        for (int no : new int[] {-1, 2, 3, -2, 256, 257, LEAST_INT, LEAST_INT + 1, GREATEST_INT}) {
            for (int right = 0; right < 2; right++) {
                due.same("u is " + no, x.agrees(0, 1, 0, no, right), NONE);
                due.same("v is " + no, x.agrees(0, 1, 0, right, no), NONE);
            }
            due.same("both are " + no, x.agrees(0, 1, 0, no, no), NONE);
        }
        x.book(0, 0, 100);
        due.same("it can't be told", x.agrees(0, 1, 0, 0, 1), -2);
        due.same("it can't be told, but v is 2", x.agrees(0, 1, 0, 0, 2), NONE);
    }

    /** 2 to 7 lead to 0 and to 1, and 0 leads to 1; only all six together are enough. */
    private static MadeItSo sixCauses() {
        MadeItSo x = Made.drawn(MOST, 0, 1);
        for (int k = 2; k < MOST; k++) {
            Made.join(x, k, 0);
            Made.join(x, k, 1);
        }
        for (int row = 0; row < 64; row++) {
            x.book(0, row, 1 + (row * 37 + 5) % 99);
        }
        for (int row = 0; row < 128; row++) {
            x.book(1, row, 1 + (row * 53 + 11) % 99);
        }
        return x;
    }

    private static void agreesEmptyAndFullHeap() {
        due.about("The SUM over z .. over all SETTINGS of z (the empty HEAP has one, six THINGS have 64)");
        MadeItSo x = sixCauses();
        for (int u = 0; u < 2; u++) {
            for (int v = 0; v < 2; v++) {
                due.same("all six, " + u + v, x.agrees(0, 1, 252, u, v), 1);
                due.same("none, " + u + v, x.agrees(0, 1, 0, u, v), 0);
                for (int k = 2; k < MOST; k++) {
                    due.same("all but " + k + ", " + u + v, x.agrees(0, 1, 252 & ~(1 << k), u, v), 0);
                }
            }
        }
        MadeItSo alone = Made.drawn(2);
        due.same("none, and two THINGS apart", alone.agrees(0, 1, 0, 0, 0), 1);
    }

    private static void agreesCannotBeTold() {
        due.about("it can't be told, where z has a WEIGHT above 0, and z and a together have none");
        MadeItSo x = Made.drawn(3, 2, 0, 0, 1);
        x.book(0, 0, 100);
        x.book(0, 1, 50);
        due.same("2 is 0 half the times, and 0 is 1 then", x.agrees(0, 1, 4, 0, 1), -2);
        due.same("for u being 1", x.agrees(0, 1, 4, 1, 1), 1);
        due.same("without 2", x.agrees(0, 1, 0, 0, 1), 1);
        x.book(2, 0, 99);
        due.same("2 is 0 once of 100", x.agrees(0, 1, 4, 0, 1), -2);
        x.book(2, 0, 100);
        due.same("2 is never 0", x.agrees(0, 1, 4, 0, 1), 1);
        x.book(0, 1, 100);
        due.same("0 is always 1", x.agrees(0, 1, 4, 0, 1), -2);
        due.same("0 is always 1, without 2", x.agrees(0, 1, 0, 0, 1), -2);
        MadeItSo six = sixCauses();
        for (int k = 2; k < MOST; k++) {
            six.book(k, 0, 1);
        }
        six.book(0, 63, 0);
        due.same("the last of 64 SETTINGS, 1 of 100 to the 6th", six.agrees(0, 1, 252, 1, 1), -2);
        six.book(7, 0, 0);
        due.same("the last of 64 SETTINGS has no WEIGHT", six.agrees(0, 1, 252, 1, 1), 1);
        six.book(0, 0, 0);
        due.same("the first of 64 SETTINGS", six.agrees(0, 1, 252, 1, 1), -2);
    }

    private static void agreesOfLeastWeight() {
        due.about("where z has a WEIGHT above 0, and z and a together have none (a WEIGHT of 1)");
        MadeItSo x = Made.drawn(3, 0, 2, 1, 2);
        x.book(0, 0, 1);
        x.book(1, 0, 1);
        for (int row = 0; row < 4; row++) {
            x.book(2, row, row == 3 ? 1 : 0);
        }
        due.same("WEIGHT of 2 being 1", x.weight(Made.is(2, 1), 0), 1);
        due.same("z has the least WEIGHT, with a none", x.agrees(0, 1, 4, 0, 1), -2);
        due.same("z and a together have the least WEIGHT", x.agrees(0, 1, 4, 1, 1), 0);
        x.book(2, 3, 0);
        due.same("z has none", x.agrees(0, 1, 4, 0, 1), 1);
    }

    private static void agreesByTheLeast() {
        due.about("Promise 17: is just what the DEED makes of b");
        MadeItSo x = Made.drawn(3, 2, 0, 0, 1, 2, 1);
        x.book(2, 0, 1);
        x.book(0, 1, 51);
        due.same("2 tells of 0 alone", x.agrees(0, 1, 0, 1, 1), 1);
        x.book(1, 3, 51);
        due.same("2 tells of 1 once of 100 in one ROW", x.agrees(0, 1, 0, 1, 1), 0);
        due.same("and v being 0", x.agrees(0, 1, 0, 1, 0), 0);
        due.same("not in the other ROWS", x.agrees(0, 1, 0, 0, 1), 1);
        due.same("with 2", x.agrees(0, 1, 4, 1, 1), 1);
    }

    /** 0 and 1 lead to 2; the BOOKS of 0, of 1, and of 2 (four ROWS). */
    private static MadeItSo meeting(int... parts) {
        MadeItSo x = Made.drawn(3, 0, 2, 1, 2);
        x.book(0, 0, parts[0]);
        x.book(1, 0, parts[1]);
        for (int row = 0; row < 4; row++) {
            x.book(2, row, parts[2 + row]);
        }
        return x;
    }

    private static void agreesOfFractions() {
        due.about("WEIGHT of z, times that of z, a and b together, by that of z and a (which may be no whole number)");
        // 2 tells nothing of 1 where 0 is 1: 75 of 100 of 484375 and of 515625, 363281 1/4 and 386718 3/4
        due.same("two that are whole together", meeting(75, 75, 40, 50, 45, 50).agrees(0, 1, 4, 1, 1), 1);
        due.same("the other way", meeting(75, 75, 40, 50, 45, 50).agrees(0, 1, 4, 1, 0), 1);
        due.same("where 2 tells of 1", meeting(75, 75, 40, 50, 45, 50).agrees(0, 1, 4, 0, 1), 0);
        // 809899 * 7920 / 801801 + 190101 * 1980 / 188199 is off 10000 by less than a thousandth
        due.same("off by less than a thousandth", meeting(99, 1, 81, 81, 79, 80).agrees(0, 1, 4, 1, 1), 0);
        due.same("off by less than a thousandth, another", meeting(99, 1, 66, 66, 67, 68).agrees(0, 1, 4, 1, 1), 0);
        due.same("off by less than a hundredth", meeting(99, 99, 96, 94, 93, 93).agrees(0, 1, 4, 1, 1), 0);
        due.same("not off", meeting(99, 1, 81, 80, 79, 80).agrees(0, 1, 4, 1, 1), 1);
    }

    /** 0 and 1 lead to those from the first on; what 1 is tells nothing of these where 0 is 1. */
    private static void joinMeetings(MadeItSo x, int first) {
        // none is even or a multiple of 5, so that no WEIGHT of all of them is a multiple of 100
        int[] bothZero = {3, 11, 17, 23, 29, 31};
        int[] secondOne = {7, 13, 19, 27, 37, 41};
        int[] firstOne = {9, 21, 33, 43, 47, 53};
        x.book(0, 0, 83);
        for (int k = first; k < MOST; k++) {
            Made.join(x, 0, k);
            Made.join(x, 1, k);
            x.book(k, 0, bothZero[k - 2]);
            x.book(k, 1, firstOne[k - 2]);
            x.book(k, 2, secondOne[k - 2]);
            x.book(k, 3, firstOne[k - 2]);
        }
    }

    private static void agreesOfManyFractions() {
        due.about("The SUM over z .. over all SETTINGS of z (64 that are no whole numbers)");
        MadeItSo x = Made.drawn(MOST);
        joinMeetings(x, 2);
        x.book(1, 0, 37);
        for (int ones = 0; ones < 64; ones++) {
            due.yes("37 of 100 of it is not whole", x.weight(252 | ones << 10, 0) % 100 != 0);
        }
        due.same("none of six tells of 1 where 0 is 1", x.agrees(0, 1, 252, 1, 1), 1);
        due.same("none of six tells of 1 where 0 is 1, v being 0", x.agrees(0, 1, 252, 1, 0), 1);
        due.same("they do where 0 is 0", x.agrees(0, 1, 252, 0, 1), 0);
        x.book(7, 3, 54);
        due.same("the last does by one part", x.agrees(0, 1, 252, 1, 1), 0);
        due.same("the others do not", x.agrees(0, 1, 124, 1, 1), 1);
        // where 2 is 1, 1 never is: every second one of the 64 is 0
        MadeItSo second = Made.drawn(MOST, 2, 1);
        joinMeetings(second, 3);
        second.book(2, 0, 41);
        second.book(1, 0, 37);
        second.book(1, 1, 0);
        due.same("every second one is 0", second.agrees(0, 1, 252, 1, 1), 1);
        due.same("every second one is 100 of 100", second.agrees(0, 1, 252, 1, 0), 1);
    }

    private static void agreesOfNothing() {
        due.about("Promise 17: 1 it is, 0 it isn't (a SUM of 0)");
        // 0 is what 2 is, and 1 is 1 where they differ: never, but half the times under a DEED
        MadeItSo x = confounded(50, 0, 100, 0, 100, 100, 0);
        due.same("the SUM is 0, the DEED makes half", x.agrees(0, 1, 0, 1, 1), 0);
        due.same("the SUM is all, the DEED makes half", x.agrees(0, 1, 0, 1, 0), 0);
        MadeItSo never = Made.drawn(2);
        never.book(1, 0, 0);
        due.same("both are 0", never.agrees(0, 1, 0, 1, 1), 1);
        due.same("both are all", never.agrees(0, 1, 0, 1, 0), 1);
    }

    private static void otherwiseWhats() {
        due.about("Promise 20: NONE for others");
        MadeItSo x = Made.pair();
        long[] answers = {7000, 8000, 2100, 2400, 2700};
        for (int what = 0; what < 5; what++) {
            due.same("otherwise(0, 1, " + what + ")", x.otherwise(0, 1, what), answers[what]);
        }
        for (int no : new int[] {-1, 5, 6, -5, 256, LEAST_INT, GREATEST_INT}) {
            due.same("otherwise(0, 1, " + no + ")", x.otherwise(0, 1, no), NONE);
        }
    }

    private static void otherwiseThings() {
        due.about("Promise 20: if there is no such THING, or both are one");
        for (int things = 1; things <= MOST; things++) {
            MadeItSo x = Made.drawn(things);
            for (int what = 0; what < 5; what++) {
                for (int no : new int[] {-1, things, 8, 32, -32, LEAST_INT, GREATEST_INT}) {
                    due.same("otherwise(" + no + ", 0) of " + things, x.otherwise(no, 0, what), NONE);
                    due.same("otherwise(0, " + no + ") of " + things, x.otherwise(0, no, what), NONE);
                }
                due.same("the first twice", x.otherwise(0, 0, what), NONE);
                due.same("the last twice", x.otherwise(things - 1, things - 1, what), NONE);
                if (things > 1) {
                    due.yes("first and last of " + things, x.otherwise(0, things - 1, what) != NONE);
                    due.yes("last and first of " + things, x.otherwise(things - 1, 0, what) != NONE);
                }
            }
        }
    }

    /** 2 leads to 0 and 1, 0 leads to 1; the BOOKS of 2, of 0 (two ROWS) and of 1 (four). */
    private static MadeItSo confounded(int... parts) {
        MadeItSo x = Made.drawn(3, 2, 0, 2, 1, 0, 1);
        x.book(2, 0, parts[0]);
        x.book(0, 0, parts[1]);
        x.book(0, 1, parts[2]);
        for (int row = 0; row < 4; row++) {
            x.book(1, row, parts[3 + row]);
        }
        return x;
    }

    private static void knows(MadeItSo x, long setOne, long setZero, long seenOne) {
        due.same("D1", x.weight(Made.is(1, 1), Made.is(0, 1)), setOne);
        due.same("D0", x.weight(Made.is(1, 1), Made.is(0, 0)), setZero);
        due.same("P(b is 1)", x.weight(Made.is(1, 1), 0), seenOne);
    }

    private static void otherwiseEachBound() {
        due.about("BOTH: at least the greatest of .., at most the least of ..; NEED likewise");
        MadeItSo less = confounded(10, 50, 50, 90, 50, 70, 10);
        knows(less, 460000, 880000, 670000);
        due.same("BOTH is at least 0", less.otherwise(0, 1, 0), 0);
        due.same("BOTH is at most N - D0", less.otherwise(0, 1, 1), 120000);
        due.same("NEED is at least 0", less.otherwise(0, 1, 2), 0);
        due.same("NEED is at most N - D0 - P(both 0)", less.otherwise(0, 1, 3), 60000);
        MadeItSo more = confounded(20, 20, 20, 0, 20, 0, 10);
        knows(more, 180000, 0, 36000);
        due.same("BOTH is at least D1 - D0", more.otherwise(0, 1, 0), 180000);
        due.same("NEED is at least P(b is 1) - D0", more.otherwise(0, 1, 2), 36000);
        MadeItSo seen = confounded(20, 10, 90, 50, 10, 50, 70);
        knows(seen, 220000, 500000, 504000);
        due.same("BOTH is at least P(b is 1) - D0", seen.otherwise(0, 1, 0), 4000);
        MadeItSo done = confounded(10, 0, 90, 0, 70, 100, 50);
        knows(done, 680000, 100000, 55000);
        due.same("BOTH is at least D1 - P(b is 1)", done.otherwise(0, 1, 0), 625000);
        due.same("BOTH is at most D1 - D0 + P(a 1, b 0) + P(a 0, b 1)", done.otherwise(0, 1, 1), 635000);
        MadeItSo never = confounded(0, 90, 90, 10, 0, 70, 70);
        knows(never, 0, 100000, 10000);
        due.same("BOTH is at most D1", never.otherwise(0, 1, 1), 0);
        due.same("NEED is at most P(both 1)", never.otherwise(0, 1, 3), 0);
        MadeItSo same = confounded(70, 70, 10, 20, 50, 20, 100);
        knows(same, 850000, 200000, 319000);
        due.same("BOTH is at most P(a, b both 1) + P(both 0)", same.otherwise(0, 1, 1), 751000);
        due.same("NEED is a part of P(both 1)", same.otherwise(0, 1, 4), 175000);
    }

    private static void otherwiseOfTheFullOne() {
        due.about("Let N be 100 to the power of n");
        long[] answers = {7000, 8000, 2100, 2400, 2700};
        MadeItSo x = Made.pair();
        for (int things = 2; things <= MOST; things++) {
            long rest = Made.hundredTo(things - 2);
            for (int what = 0; what < 5; what++) {
                due.same("of " + things + ", " + what, x.otherwise(0, 1, what), answers[what] * rest);
            }
            x.thing(false);
        }
    }

    private static void otherwiseNeverAndAlways() {
        due.about("OTHERWISE, where a and b are never or always 1");
        MadeItSo x = Made.drawn(MOST);
        long[] neverNever = {0, 0, 0, 0, 0};
        long[] alwaysAlways = {0, 0, 0, 0, HUNDRED_TO_8};
        long[] mirrored = {HUNDRED_TO_8, HUNDRED_TO_8, HUNDRED_TO_8, HUNDRED_TO_8, HUNDRED_TO_8};
        for (int parts = 0; parts <= 100; parts += 100) {
            x.book(0, 0, parts);
            x.book(7, 0, parts);
            for (int what = 0; what < 5; what++) {
                long want = parts == 0 ? neverNever[what] : alwaysAlways[what];
                due.same("both " + parts + ", " + what, x.otherwise(0, 7, what), want);
            }
        }
        Made.join(x, 0, 7);
        x.book(7, 0, 0);
        x.book(7, 1, 100);
        for (int what = 0; what < 5; what++) {
            due.same("7 is what 0 is, " + what, x.otherwise(0, 7, what), mirrored[what]);
        }
    }
}
