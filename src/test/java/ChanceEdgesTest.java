/**
 * The edges of promises 9 to 12 (WEIGHTS and chances): empty SETTINGS and those of all THINGS, BOOKS of 0 and
 * 100, the least WEIGHT above 0 and the greatest, the last value that is taken and the first that is refused.
 * Each test says the document's words that it is about.
 */
public final class ChanceEdgesTest {
    private static final int NONE = MadeItSo.NONE;
    private static final int MOST = Made.MOST;
    private static final int LEAST_INT = Integer.MIN_VALUE;
    private static final int GREATEST_INT = Integer.MAX_VALUE;
    private static final long HUNDRED_TO_8 = 10000000000000000L;

    private static final Due due = new Due();

    public static void main(String[] args) {
        settingsOfEachSize();
        settingsOfOtherThings();
        settingsOfBitsTooHigh();
        settingsAreThreeToTheN();
        weightsTogether();
        weightOfNeverAndAlways();
        weightLeastAndGreatest();
        deedOtherwise();
        deedWhateverItsBookSays();
        deedOfNoneAndAll();
        chanceIsReckoned();
        chanceGivenWeightZero();
        chanceNone();
        chanceAheadOfAny();
        chanceBehindZeroOrNone();
        lowestTerms();
        latestChance();
        due.end();
    }

    /** Whether a number counts as a SETTING wherever the face takes one; all six must be of one mind. */
    private static void settingIs(MadeItSo x, String which, int setting, boolean taken) {
        due.same("weight(" + which + ", 0)", x.weight(setting, 0) != NONE, taken);
        due.same("weight(0, " + which + ")", x.weight(0, setting) != NONE, taken);
        due.same("chance(" + which + ", 0, 0)", x.chance(setting, 0, 0) != NONE, taken);
        due.same("chance(0, " + which + ", 0)", x.chance(0, setting, 0) != NONE, taken);
        due.same("chance(0, 0, " + which + ")", x.chance(0, 0, setting) != NONE, taken);
        due.same("draw(1, " + which + ")", x.draw(1, setting) != NONE, taken);
    }

    private static void settingsOfEachSize() {
        due.about("SETTINGS: the lowest eight bits a HEAP, the next eight what each THING of it is");
        for (int things = 0; things <= MOST; things++) {
            MadeItSo x = Made.dense(things);
            settingIs(x, "the empty one", 0, true);
            settingIs(x, "all of " + things + " are 0", Made.all(things), true);
            settingIs(x, "all of " + things + " are 1", Made.ones(things), true);
            settingIs(x, "one more than " + things + " is 0", 1 << things, false);
            if (things > 0) {
                settingIs(x, "the last of " + things + " is 1", Made.is(things - 1, 1), true);
                settingIs(x, "the first of " + things + " is 1", Made.is(0, 1), true);
            }
            if (things < MOST) {
                settingIs(x, "all and one more of " + things, Made.all(things + 1), false);
                settingIs(x, "one more than " + things + " is 1", Made.is(things, 1), false);
                settingIs(x, "all of eight are 1, of " + things, 65535, false);
            }
        }
    }

    private static void settingsOfOtherThings() {
        due.about("bits of others there: none may be 1");
        for (int things : new int[] {1, 3, MOST}) {
            MadeItSo x = Made.drawn(things);
            for (int k = 0; k < MOST; k++) {
                settingIs(x, "the empty HEAP and a 1 of " + k, 1 << (k + 8), false);
            }
            for (int k = 0; k < things; k++) {
                settingIs(x, "all but " + k + ", all 1", Made.ones(things) & ~(1 << k), false);
                settingIs(x, "all but " + k + ", others 1", Made.ones(things) & ~Made.is(k, 1), true);
            }
        }
    }

    private static void settingsOfBitsTooHigh() {
        due.about("Promise 9: NONE if one is none");
        MadeItSo x = Made.drawn(MOST);
        for (int bit = 16; bit < 32; bit++) {
            settingIs(x, "bit " + bit, 1 << bit, false);
            settingIs(x, "all are 1 and bit " + bit, 65535 | 1 << bit, false);
        }
        for (int no : new int[] {-1, -255, -256, -65536, 65536, 65537, LEAST_INT, GREATEST_INT}) {
            settingIs(x, "" + no, no, false);
        }
    }

    private static void settingsAreThreeToTheN() {
        due.about("SETTINGS are numbers, too (each THING is not in it, 0, or 1)");
        int power = 1;
        for (int things = 0; things <= MOST; things++) {
            int taken = 0;
            MadeItSo x = Made.drawn(things);
            for (int setting = -256; setting < 65536 + 256; setting++) {
                if ((setting & 255) == 0) {
                    x = Made.drawn(things);
                }
                taken += x.draw(0, setting) == NONE ? 0 : 1;
            }
            due.same("SETTINGS of " + things, taken, power);
            power *= 3;
        }
    }

    private static void weightsTogether() {
        due.about("All WEIGHTS together are 100 to the power of n");
        for (int things = 0; things <= MOST; things++) {
            MadeItSo x = Made.row(things);
            for (int k = 0; k < things; k++) {
                x.book(k, 0, 3 * k + 1);
                x.book(k, 1, 99 - k);
            }
            long all = Made.hundredTo(things);
            due.same("of " + things, x.weight(0, 0), all);
            due.same("of " + things + ", all set to 0", x.weight(0, Made.all(things)), all);
            due.same("of " + things + ", all set to 1", x.weight(0, Made.ones(things)), all);
            long sum = 0;
            for (int ones = 0; ones < 1 << things; ones++) {
                sum += x.weight(Made.all(things) | ones << 8, 0);
            }
            due.same("of " + things + ", CASE by CASE", sum, all);
        }
    }

    private static void weightOfNeverAndAlways() {
        due.about("how many of 100 times its BOOK, in the ROW that the CASE has, says what it is (0 and 100)");
        MadeItSo x = Made.pair();
        x.book(0, 0, 0);
        due.same("never 1, being 1", x.weight(Made.is(0, 1), 0), 0);
        due.same("never 1, being 0", x.weight(Made.is(0, 0), 0), 10000);
        due.same("what only its ROW 1 says counts nothing", x.weight(Made.is(1, 1), 0), 2000);
        x.book(0, 0, 100);
        due.same("always 1, being 1", x.weight(Made.is(0, 1), 0), 10000);
        due.same("always 1, being 0", x.weight(Made.is(0, 0), 0), 0);
        due.same("what only its ROW 0 says counts nothing", x.weight(Made.is(1, 1), 0), 9000);
    }

    private static void weightLeastAndGreatest() {
        due.about("Promise 9: The WEIGHT of all CASES that have a SETTING");
        MadeItSo seldom = Made.eight(1);
        due.same("the least above 0", seldom.weight(65535, 0), 1);
        due.same("all of them 0", seldom.weight(255, 0), 9227446944279201L);
        due.same("the last is 1", seldom.weight(Made.is(7, 1), 0), HUNDRED_TO_8 / 100);
        MadeItSo always = Made.eight(100);
        due.same("the greatest, one CASE", always.weight(65535, 0), HUNDRED_TO_8);
        due.same("the greatest, the empty SETTING", always.weight(0, 0), HUNDRED_TO_8);
        due.same("none", always.weight(255, 0), 0);
        due.same("none for one of eight", always.weight(65535 & ~(1 << 15), 0), 0);
    }

    private static void deedOtherwise() {
        due.about("Under a DEED a CASE that is otherwise than the DEED says has WEIGHT 0");
        MadeItSo x = Made.dense(MOST);
        for (int k = 0; k < MOST; k++) {
            due.same("set to 0, being 1", x.weight(Made.is(k, 1), Made.is(k, 0)), 0);
            due.same("set to 1, being 0", x.weight(Made.is(k, 0), Made.is(k, 1)), 0);
            due.same("set to 0, being 0", x.weight(Made.is(k, 0), Made.is(k, 0)), HUNDRED_TO_8);
            due.same("set to 1, being 1", x.weight(Made.is(k, 1), Made.is(k, 1)), HUNDRED_TO_8);
            int butOne = 65535 & ~(1 << (k + 8));
            due.same("all set to 1, all but one being so", x.weight(butOne, 65535), 0);
        }
    }

    private static void deedWhateverItsBookSays() {
        due.about("of others each THING of the DEED counts 100 in the product, whatever its BOOK says");
        MadeItSo x = Made.pair();
        x.book(0, 0, 0);
        due.same("never 1, but set to 1", x.weight(Made.is(0, 1), Made.is(0, 1)), 10000);
        due.same("what comes of it", x.weight(Made.is(1, 1), Made.is(0, 1)), 9000);
        x.book(0, 0, 100);
        due.same("always 1, but set to 0", x.weight(Made.is(0, 0), Made.is(0, 0)), 10000);
        due.same("what comes of it", x.weight(Made.is(1, 1), Made.is(0, 0)), 2000);
        x.book(1, 0, 0);
        x.book(1, 1, 0);
        due.same("set against both its ROWS", x.weight(Made.is(1, 1), Made.is(1, 1)), 10000);
        MadeItSo never = Made.eight(0);
        due.same("eight that never are, all set to 1", never.weight(65535, 65535), HUNDRED_TO_8);
        due.same("eight that never are, seven set to 1", never.weight(65535, 32639), 0);
    }

    private static void deedOfNoneAndAll() {
        due.about("DEED (a SETTING): the empty one, and one of all THINGS");
        MadeItSo x = Made.pair();
        due.same("the empty one", x.weight(Made.ones(2), 0), 2700);
        for (int done = 0; done < 4; done++) {
            for (int being = 0; being < 4; being++) {
                long weight = x.weight(3 | being << 8, 3 | done << 8);
                due.same("both set, " + done + " and " + being, weight, done == being ? 10000 : 0);
            }
        }
    }

    private static void chanceIsReckoned() {
        due.about("Promise 10: The chance of a SETTING, given another one, under a DEED, is reckoned: 1");
        for (int things = 0; things <= MOST; things++) {
            MadeItSo x = Made.dense(things);
            int ones = Made.ones(things);
            due.fraction(x, 0, 0, 0, 1, 1);
            due.fraction(x, ones, 0, 0, 1, 1L << things);
            due.fraction(x, 0, ones, 0, 1, 1);
            due.fraction(x, ones, ones, 0, 1, 1);
            due.fraction(x, ones, ones, ones, 1, 1);
            due.fraction(x, ones, 0, ones, 1, 1);
            if (things > 0) {
                due.fraction(x, ones, Made.all(things), 0, 0, 1);
                due.fraction(x, Made.all(things), 0, ones, 0, 1);
                due.fraction(x, ones, Made.is(things - 1, 1), 0, 1, 1L << (things - 1));
                due.fraction(x, ones, Made.is(0, 0), 0, 0, 1);
            }
        }
    }

    private static void chanceGivenWeightZero() {
        due.about("Promise 10: 0 if the other one has WEIGHT 0");
        MadeItSo x = Made.pair();
        x.book(0, 0, 0);
        due.same("given what never is", x.chance(Made.is(1, 1), Made.is(0, 1), 0), 0);
        due.same("the empty one given it", x.chance(0, Made.is(0, 1), 0), 0);
        due.same("itself given it", x.chance(Made.is(0, 1), Made.is(0, 1), 0), 0);
        due.same("given what never is, but is set", x.chance(Made.is(1, 1), Made.is(0, 1), Made.is(0, 1)), 1);
        due.same("given what is set otherwise", x.chance(Made.is(1, 1), Made.is(0, 0), Made.is(0, 1)), 0);
        due.same("what never is, given another", x.chance(Made.is(0, 1), Made.is(1, 1), 0), 1);
        x.book(0, 0, 1);
        due.same("given what seldom is", x.chance(Made.is(1, 1), Made.is(0, 1), 0), 1);
        MadeItSo seldom = Made.eight(1);
        due.fraction(seldom, 0, 65535, 0, 1, 1);
        due.fraction(seldom, 255, 65535, 0, 0, 1);
        seldom.book(7, 0, 0);
        due.same("given eight of which one never is", seldom.chance(0, 65535, 0), 0);
    }

    private static void chanceNone() {
        due.about("Promise 10: NONE if one is none");
        MadeItSo x = Made.pair();
        int never = Made.is(0, 1);
        x.book(0, 0, 0);
        for (int no : new int[] {4, 256, 65536, -1, LEAST_INT}) {
            due.same("the first, and the other has WEIGHT 0", x.chance(no, never, 0), NONE);
            due.same("the DEED, and the other has WEIGHT 0", x.chance(0, never, no), NONE);
            due.same("the other", x.chance(never, no, 0), NONE);
            due.same("all three", x.chance(no, no, no), NONE);
        }
    }

    private static void fractionIs(MadeItSo x, String where, long above, long below) {
        due.same("above() " + where, x.above(), above);
        due.same("below() " + where, x.below(), below);
    }

    private static void chanceAheadOfAny() {
        due.about("Promise 10: ahead of any .. these are 0 and 1");
        fractionIs(new MadeItSo(), "of the empty object", 0, 1);
        MadeItSo x = Made.pair();
        fractionIs(x, "of two THINGS", 0, 1);
        x.weight(Made.is(1, 1), Made.is(0, 1));
        x.agrees(0, 1, 0, 1, 1);
        x.otherwise(0, 1, 1);
        fractionIs(x, "behind other calls", 0, 1);
        fractionIs(Made.dense(MOST), "of the full object", 0, 1);
    }

    private static void chanceBehindZeroOrNone() {
        due.about("Promise 10: behind 0 or NONE, these are 0 and 1");
        MadeItSo x = Made.pair();
        int[][] wrong = {{4, 0, 0}, {0, 4, 0}, {0, 0, 4}, {256, 0, 0}, {-1, -1, -1}};
        for (int[] no : wrong) {
            due.fraction(x, Made.is(0, 1), Made.is(1, 1), 0, 27, 41);
            due.same("chance NONE", x.chance(no[0], no[1], no[2]), NONE);
            fractionIs(x, "behind NONE", 0, 1);
        }
        due.fraction(x, Made.is(0, 1), Made.is(1, 1), 0, 27, 41);
        due.same("chance 0", x.chance(0, Made.is(0, 1), Made.is(0, 0)), 0);
        fractionIs(x, "behind 0", 0, 1);
        due.fraction(x, Made.is(0, 1), Made.is(1, 1), 0, 27, 41);
    }

    private static void lowestTerms() {
        due.about("Promise 11: in lowest terms; Promise 12: What it is below the line");
        MadeItSo seldom = Made.eight(1);
        due.fraction(seldom, 65535, 0, 0, 1, HUNDRED_TO_8);
        due.fraction(seldom, 255, 0, 0, 9227446944279201L, HUNDRED_TO_8);
        due.fraction(seldom, Made.is(7, 1), 0, 0, 1, 100);
        due.fraction(Made.eight(99), 65535, 0, 0, 9227446944279201L, HUNDRED_TO_8);
        due.fraction(Made.eight(100), 65535, 0, 0, 1, 1);
        due.fraction(Made.eight(100), 255, 0, 0, 0, 1);
        due.fraction(Made.eight(60), Made.ones(2), 0, 0, 9, 25);
        due.fraction(Made.eight(50), 65535, 0, 0, 1, 256);
    }

    private static void latestChance() {
        due.about("Promise 11: What the latest chance() is above the line");
        MadeItSo x = Made.pair();
        due.fraction(x, Made.is(0, 1), Made.is(1, 1), 0, 27, 41);
        fractionIs(x, "asked again", 27, 41);
        due.fraction(x, Made.is(0, 1), 0, 0, 3, 10);
        x.book(0, 0, 70);
        x.thing(true);
        x.turn(0, 1);
        fractionIs(x, "when BOOKS and ARROWS are others", 3, 10);
        due.fraction(x, Made.is(0, 1), 0, 0, 1, 2);
    }
}
