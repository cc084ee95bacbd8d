/**
 * The edges of promise 21 (a CASE drawn by a seed): the seed's wrap-around, BOOKS of 0 and 100 and just at a
 * seed's number, the order of THINGS, empty DEEDS and those of all THINGS. Each test says the document's words
 * that it is about.
 */
public final class DrawEdgesTest {
    private static final int NONE = MadeItSo.NONE;
    private static final int MOST = Made.MOST;
    private static final int LEAST_INT = Integer.MIN_VALUE;
    private static final int GREATEST_INT = Integer.MAX_VALUE;

    private static final Due due = new Due();

    public static void main(String[] args) {
        drawWrapsAround();
        drawWithoutSign();
        drawLessThanTheBook();
        drawByTurns();
        drawUnderDeeds();
        drawDeedIsNone();
        due.end();
    }

    /** Just the number that a seed gives for one THING: it is 1 for all parts above it, and for no others. */
    private static void numberIs(int seed, int number) {
        MadeItSo x = Made.drawn(1);
        x.book(0, 0, number);
        due.same("draw(" + seed + ", 0) of parts " + number, x.draw(seed, 0), 0);
        x.book(0, 0, number + 1);
        due.same("draw(" + seed + ", 0) of parts " + (number + 1), x.draw(seed, 0), 1);
    }

    private static void drawWrapsAround() {
        due.about("Promise 21: the seed becomes seed * 1103515245 + 12345 (32 bits, it wraps)");
        // 12345, which is shifted to 0
        numberIs(0, 0);
        // 1103527590: the last that has no sign; 16838
        numberIs(1, 38);
        // 2207042835: the first that has one; 33676
        numberIs(2, 76);
        // 3310558080: the last of 32 bits; 50515
        numberIs(3, 15);
        // 4414073325, which wraps to 119106029; 1817
        numberIs(4, 17);
        // -1103502900, which wraps to 3191464396; 48697
        numberIs(-1, 97);
        // 2147483648 + 12345; 32768
        numberIs(LEAST_INT, 68);
        // 2147483648 - 1103502900; 15929
        numberIs(GREATEST_INT, 29);
        long[] seeds = {0, 1, 2, 3, 4, 5, -1, -2, LEAST_INT, LEAST_INT + 1, GREATEST_INT, GREATEST_INT - 1, 65536, 99999999};
        for (long seed : seeds) {
            int due8 = 0;
            long state = seed & 0xFFFFFFFFL;
            MadeItSo x = Made.eight(37);
            for (int k = 0; k < MOST; k++) {
                state = (state * 1103515245L + 12345L) % (1L << 32);
                due8 |= state / 65536 % 100 < 37 ? 1 << k : 0;
            }
            due.same("draw(" + seed + ", 0) of eight", x.draw((int) seed, 0), due8);
        }
    }

    private static void drawWithoutSign() {
        due.about("Promise 21: (seed shifted right by 16, without sign) modulo 100");
        MadeItSo never = Made.eight(0);
        MadeItSo always = Made.eight(100);
        for (int seed = -50; seed < 50; seed++) {
            int far = seed * 43000000;
            due.same("draw(" + far + ", 0) of never", never.draw(far, 0), 0);
            due.same("draw(" + far + ", 0) of always", always.draw(far, 0), 255);
        }
    }

    private static void drawLessThanTheBook() {
        due.about("Promise 21: and it is 1, if .. is less than what its BOOK says");
        int[] numbers = {38, 26, 13, 83};
        for (int k = 0; k < numbers.length; k++) {
            MadeItSo x = Made.drawn(numbers.length);
            for (int other = 0; other < numbers.length; other++) {
                x.book(other, 0, numbers[other]);
            }
            due.same("each just its number", x.draw(1, 0), 0);
            x.book(k, 0, numbers[k] + 1);
            due.same("one more for " + k, x.draw(1, 0), 1 << k);
        }
    }

    /** 39, 27, 14, 84 are just above what seed 1 gives one THING after the other. */
    private static void drawByTurns() {
        due.about("Promise 21: each when all its PARENTS came, of several the least number");
        int[] justAbove = {39, 27, 14, 84};
        int[][] orders = {{0, 1, 2, 3}, {3, 2, 1, 0}, {1, 3, 0, 2}, {2, 0, 3, 1}};
        for (int[] order : orders) {
            MadeItSo x = Made.drawn(4, order[0], order[1], order[1], order[2], order[2], order[3]);
            for (int i = 0; i < 4; i++) {
                x.book(order[i], 0, i == 0 ? justAbove[0] : 0);
                x.book(order[i], 1, justAbove[i]);
            }
            due.same("a row from " + order[0], x.draw(1, 0), 15);
            x.book(order[3], 1, justAbove[3] - 1);
            due.same("the last of it by one less", x.draw(1, 0), 15 & ~(1 << order[3]));
        }
        // 0 waits for 2: 1 and 2 come first, then 0 ahead of 3
        MadeItSo waits = Made.drawn(4, 2, 0);
        waits.book(1, 0, 39);
        waits.book(2, 0, 27);
        waits.book(0, 1, 14);
        waits.book(3, 0, 84);
        due.same("one that waits comes as soon as it can", waits.draw(1, 0), 15);
        // 0 waits for both 1 and 3
        MadeItSo both = Made.drawn(4, 1, 0, 3, 0);
        both.book(1, 0, 39);
        both.book(2, 0, 27);
        both.book(3, 0, 14);
        both.book(0, 3, 84);
        due.same("one that waits for two", both.draw(1, 0), 15);
    }

    private static void drawUnderDeeds() {
        due.about("Promise 21: one that the DEED sets is that (the seed goes on all the same)");
        MadeItSo x = Made.drawn(4);
        int[] justAbove = {39, 27, 14, 84};
        for (int k = 0; k < 4; k++) {
            x.book(k, 0, justAbove[k]);
        }
        due.same("the empty DEED", x.draw(1, 0), 15);
        for (int heap = 0; heap < 16; heap++) {
            due.same("set to 0: " + heap, x.draw(1, heap), 15 & ~heap);
            due.same("set to 1: " + heap, x.draw(1, heap * 257), 15);
        }
        for (int k = 0; k < 4; k++) {
            x.book(k, 0, justAbove[k] - 1);
        }
        for (int heap = 0; heap < 16; heap++) {
            due.same("by one less, set to 1: " + heap, x.draw(1, heap * 257), heap);
        }
        MadeItSo full = Made.dense(MOST);
        due.same("all eight set to 0", full.draw(7, 255), 0);
        due.same("all eight set to 1", full.draw(7, 65535), 255);
        MadeItSo never = Made.eight(0);
        due.same("never, but set to 1", never.draw(7, Made.is(7, 1)), 128);
        MadeItSo row = Made.pair();
        row.book(0, 0, 0);
        row.book(1, 0, 0);
        row.book(1, 1, 100);
        due.same("what comes of a DEED", row.draw(1, Made.is(0, 1)), 3);
        due.same("what comes without it", row.draw(1, 0), 0);
    }

    private static void drawDeedIsNone() {
        due.about("Promise 21: NONE if the DEED is none");
        for (int things = 0; things <= MOST; things++) {
            MadeItSo x = Made.drawn(things);
            int[] none = {1 << things, 2 << things, 256, 65536, -1, LEAST_INT, Made.all(things) | 65536};
            for (int no : none) {
                due.same("draw(1, " + no + ") of " + things, x.draw(1, no), NONE);
            }
            due.yes("draw under all of " + things, x.draw(1, Made.ones(things)) == Made.all(things));
        }
    }
}
