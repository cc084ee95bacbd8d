/**
 * The edges of promises 9 to 12, 17, 20 and 21 (WEIGHTS and chances): empty SETTINGS and those of all THINGS,
 * BOOKS of 0 and 100, the least WEIGHT above 0 and the greatest, the last value that is taken and the first
 * that is refused, and the seed's wrap-around. Each test says the document's words that it is about.
 */
public final class ChanceEdgesTest {
    private static final int NONE = MadeItSo.NONE;
    private static final int MOST = Made.MOST;
    private static final int LEAST_INT = Integer.MIN_VALUE;
    private static final int GREATEST_INT = Integer.MAX_VALUE;
    private static final long HUNDRED_TO_8 = 10000000000000000L;

    private static final Due due = new Due();

    public static void main(String[] args) {
        settingsOfEachSize();
        settingsOfOtherThings();
        settingsOfBitsTooHigh();
        settingsAreThreeToTheN();
        weightsTogether();
        weightOfNeverAndAlways();
        weightLeastAndGreatest();
        deedOtherwise();
        deedWhateverItsBookSays();
        deedOfNoneAndAll();
        chanceIsReckoned();
        chanceGivenWeightZero();
        chanceNone();
        chanceAheadOfAny();
        chanceBehindZeroOrNone();
        lowestTerms();
        latestChance();
        agreesThings();
        agreesHeaps();
        agreesZeroOrOne();
        agreesEmptyAndFullHeap();
        agreesCannotBeTold();
        agreesByTheLeast();
        otherwiseWhats();
        otherwiseThings();
        otherwiseEachBound();
        otherwiseOfTheFullOne();
        otherwiseNeverAndAlways();
        drawWrapsAround();
        drawWithoutSign();
        drawLessThanTheBook();
        drawByTurns();
        drawUnderDeeds();
        drawDeedIsNone();
        due.end();
    }

    /** Whether a number counts as a SETTING wherever the face takes one; all six must be of one mind. */
    private static void settingIs(MadeItSo x, String which, int setting, boolean taken) {
        due.same("weight(" + which + ", 0)", x.weight(setting, 0) != NONE, taken);
        due.same("weight(0, " + which + ")", x.weight(0, setting) != NONE, taken);
        due.same("chance(" + which + ", 0, 0)", x.chance(setting, 0, 0) != NONE, taken);
        due.same("chance(0, " + which + ", 0)", x.chance(0, setting, 0) != NONE, taken);
        due.same("chance(0, 0, " + which + ")", x.chance(0, 0, setting) != NONE, taken);
        due.same("draw(1, " + which + ")", x.draw(1, setting) != NONE, taken);
    }

    private static void settingsOfEachSize() {
        due.about("SETTINGS: the lowest eight bits a HEAP, the next eight what each THING of it is");
        for (int things = 0; things <= MOST; things++) {
            MadeItSo x = Made.dense(things);
            settingIs(x, "the empty one", 0, true);
            settingIs(x, "all of " + things + " are 0", Made.all(things), true);
            settingIs(x, "all of " + things + " are 1", Made.ones(things), true);
            settingIs(x, "one more than " + things + " is 0", 1 << things, false);
            if (things > 0) {
                settingIs(x, "the last of " + things + " is 1", Made.is(things - 1, 1), true);
                settingIs(x, "the first of " + things + " is 1", Made.is(0, 1), true);
            }
            if (things < MOST) {
                settingIs(x, "all and one more of " + things, Made.all(things + 1), false);
                settingIs(x, "one more than " + things + " is 1", Made.is(things, 1), false);
                settingIs(x, "all of eight are 1, of " + things, 65535, false);
            }
        }
    }

    private static void settingsOfOtherThings() {
        due.about("bits of others there: none may be 1");
        for (int things : new int[] {1, 3, MOST}) {
            MadeItSo x = Made.drawn(things);
            for (int k = 0; k < MOST; k++) {
                settingIs(x, "the empty HEAP and a 1 of " + k, 1 << (k + 8), false);
            }
            for (int k = 0; k < things; k++) {
                settingIs(x, "all but " + k + ", all 1", Made.ones(things) & ~(1 << k), false);
                settingIs(x, "all but " + k + ", others 1", Made.ones(things) & ~Made.is(k, 1), true);
            }
        }
    }

    private static void settingsOfBitsTooHigh() {
        due.about("Promise 9: NONE if one is none");
        MadeItSo x = Made.drawn(MOST);
        for (int bit = 16; bit < 32; bit++) {
            settingIs(x, "bit " + bit, 1 << bit, false);
            settingIs(x, "all are 1 and bit " + bit, 65535 | 1 << bit, false);
        }
        for (int no : new int[] {-1, -255, -256, -65536, 65536, 65537, LEAST_INT, GREATEST_INT}) {
            settingIs(x, "" + no, no, false);
        }
    }

    private static void settingsAreThreeToTheN() {
        due.about("SETTINGS are numbers, too (each THING is not in it, 0, or 1)");
        int power = 1;
        for (int things = 0; things <= MOST; things++) {
            int taken = 0;
            MadeItSo x = Made.drawn(things);
            for (int setting = -256; setting < 65536 + 256; setting++) {
                if ((setting & 255) == 0) {
                    x = Made.drawn(things);
                }
                taken += x.draw(0, setting) == NONE ? 0 : 1;
            }
            due.same("SETTINGS of " + things, taken, power);
            power *= 3;
        }
    }

    private static void weightsTogether() {
        due.about("All WEIGHTS together are 100 to the power of n");
        for (int things = 0; things <= MOST; things++) {
            MadeItSo x = Made.row(things);
            for (int k = 0; k < things; k++) {
                x.book(k, 0, 3 * k + 1);
                x.book(k, 1, 99 - k);
            }
            long all = Made.hundredTo(things);
            due.same("of " + things, x.weight(0, 0), all);
            due.same("of " + things + ", all set to 0", x.weight(0, Made.all(things)), all);
            due.same("of " + things + ", all set to 1", x.weight(0, Made.ones(things)), all);
            long sum = 0;
            for (int ones = 0; ones < 1 << things; ones++) {
                sum += x.weight(Made.all(things) | ones << 8, 0);
            }
            due.same("of " + things + ", CASE by CASE", sum, all);
        }
    }

    private static void weightOfNeverAndAlways() {
        due.about("how many of 100 times its BOOK, in the ROW that the CASE has, says what it is (0 and 100)");
        MadeItSo x = Made.pair();
        x.book(0, 0, 0);
        due.same("never 1, being 1", x.weight(Made.is(0, 1), 0), 0);
        due.same("never 1, being 0", x.weight(Made.is(0, 0), 0), 10000);
        due.same("what only its ROW 1 says counts nothing", x.weight(Made.is(1, 1), 0), 2000);
        x.book(0, 0, 100);
        due.same("always 1, being 1", x.weight(Made.is(0, 1), 0), 10000);
        due.same("always 1, being 0", x.weight(Made.is(0, 0), 0), 0);
        due.same("what only its ROW 0 says counts nothing", x.weight(Made.is(1, 1), 0), 9000);
    }

    private static MadeItSo eightOfParts(int parts) {
        MadeItSo x = Made.drawn(MOST);
        for (int k = 0; k < MOST; k++) {
            x.book(k, 0, parts);
        }
        return x;
    }

    private static void weightLeastAndGreatest() {
        due.about("Promise 9: The WEIGHT of all CASES that have a SETTING");
        MadeItSo seldom = eightOfParts(1);
        due.same("the least above 0", seldom.weight(65535, 0), 1);
        due.same("all of them 0", seldom.weight(255, 0), 9227446944279201L);
        due.same("the last is 1", seldom.weight(Made.is(7, 1), 0), HUNDRED_TO_8 / 100);
        MadeItSo always = eightOfParts(100);
        due.same("the greatest, one CASE", always.weight(65535, 0), HUNDRED_TO_8);
        due.same("the greatest, the empty SETTING", always.weight(0, 0), HUNDRED_TO_8);
        due.same("none", always.weight(255, 0), 0);
        due.same("none for one of eight", always.weight(65535 & ~(1 << 15), 0), 0);
    }

    private static void deedOtherwise() {
        due.about("Under a DEED a CASE that is otherwise than the DEED says has WEIGHT 0");
        MadeItSo x = Made.dense(MOST);
        for (int k = 0; k < MOST; k++) {
            due.same("set to 0, being 1", x.weight(Made.is(k, 1), Made.is(k, 0)), 0);
            due.same("set to 1, being 0", x.weight(Made.is(k, 0), Made.is(k, 1)), 0);
            due.same("set to 0, being 0", x.weight(Made.is(k, 0), Made.is(k, 0)), HUNDRED_TO_8);
            due.same("set to 1, being 1", x.weight(Made.is(k, 1), Made.is(k, 1)), HUNDRED_TO_8);
            int butOne = 65535 & ~(1 << (k + 8));
            due.same("all set to 1, all but one being so", x.weight(butOne, 65535), 0);
        }
    }

    private static void deedWhateverItsBookSays() {
        due.about("of others each THING of the DEED counts 100 in the product, whatever its BOOK says");
        MadeItSo x = Made.pair();
        x.book(0, 0, 0);
        due.same("never 1, but set to 1", x.weight(Made.is(0, 1), Made.is(0, 1)), 10000);
        due.same("what comes of it", x.weight(Made.is(1, 1), Made.is(0, 1)), 9000);
        x.book(0, 0, 100);
        due.same("always 1, but set to 0", x.weight(Made.is(0, 0), Made.is(0, 0)), 10000);
        due.same("what comes of it", x.weight(Made.is(1, 1), Made.is(0, 0)), 2000);
        x.book(1, 0, 0);
        x.book(1, 1, 0);
        due.same("set against both its ROWS", x.weight(Made.is(1, 1), Made.is(1, 1)), 10000);
        MadeItSo never = eightOfParts(0);
        due.same("eight that never are, all set to 1", never.weight(65535, 65535), HUNDRED_TO_8);
        due.same("eight that never are, seven set to 1", never.weight(65535, 32639), 0);
    }

    private static void deedOfNoneAndAll() {
        due.about("DEED (a SETTING): the empty one, and one of all THINGS");
        MadeItSo x = Made.pair();
        due.same("the empty one", x.weight(Made.ones(2), 0), 2700);
        for (int done = 0; done < 4; done++) {
            for (int being = 0; being < 4; being++) {
                long weight = x.weight(3 | being << 8, 3 | done << 8);
                due.same("both set, " + done + " and " + being, weight, done == being ? 10000 : 0);
            }
        }
    }

    private static void fraction(MadeItSo x, int setting, int given, int deed, long above, long below) {
        String call = "chance(" + setting + ", " + given + ", " + deed + ")";
        due.same(call, x.chance(setting, given, deed), 1);
        due.same("above() behind " + call, x.above(), above);
        due.same("below() behind " + call, x.below(), below);
    }

    private static void chanceIsReckoned() {
        due.about("Promise 10: The chance of a SETTING, given another one, under a DEED, is reckoned: 1");
        for (int things = 0; things <= MOST; things++) {
            MadeItSo x = Made.dense(things);
            int ones = Made.ones(things);
            fraction(x, 0, 0, 0, 1, 1);
            fraction(x, ones, 0, 0, 1, 1L << things);
            fraction(x, 0, ones, 0, 1, 1);
            fraction(x, ones, ones, 0, 1, 1);
            fraction(x, ones, ones, ones, 1, 1);
            fraction(x, ones, 0, ones, 1, 1);
            if (things > 0) {
                fraction(x, ones, Made.all(things), 0, 0, 1);
                fraction(x, Made.all(things), 0, ones, 0, 1);
                fraction(x, ones, Made.is(things - 1, 1), 0, 1, 1L << (things - 1));
                fraction(x, ones, Made.is(0, 0), 0, 0, 1);
            }
        }
    }

    private static void chanceGivenWeightZero() {
        due.about("Promise 10: 0 if the other one has WEIGHT 0");
        MadeItSo x = Made.pair();
        x.book(0, 0, 0);
        due.same("given what never is", x.chance(Made.is(1, 1), Made.is(0, 1), 0), 0);
        due.same("the empty one given it", x.chance(0, Made.is(0, 1), 0), 0);
        due.same("itself given it", x.chance(Made.is(0, 1), Made.is(0, 1), 0), 0);
        due.same("given what never is, but is set", x.chance(Made.is(1, 1), Made.is(0, 1), Made.is(0, 1)), 1);
        due.same("given what is set otherwise", x.chance(Made.is(1, 1), Made.is(0, 0), Made.is(0, 1)), 0);
        due.same("what never is, given another", x.chance(Made.is(0, 1), Made.is(1, 1), 0), 1);
        x.book(0, 0, 1);
        due.same("given what seldom is", x.chance(Made.is(1, 1), Made.is(0, 1), 0), 1);
        MadeItSo seldom = eightOfParts(1);
        fraction(seldom, 0, 65535, 0, 1, 1);
        fraction(seldom, 255, 65535, 0, 0, 1);
        seldom.book(7, 0, 0);
        due.same("given eight of which one never is", seldom.chance(0, 65535, 0), 0);
    }

    private static void chanceNone() {
        due.about("Promise 10: NONE if one is none");
        MadeItSo x = Made.pair();
        int never = Made.is(0, 1);
        x.book(0, 0, 0);
        for (int no : new int[] {4, 256, 65536, -1, LEAST_INT}) {
            due.same("the first, and the other has WEIGHT 0", x.chance(no, never, 0), NONE);
            due.same("the DEED, and the other has WEIGHT 0", x.chance(0, never, no), NONE);
            due.same("the other", x.chance(never, no, 0), NONE);
            due.same("all three", x.chance(no, no, no), NONE);
        }
    }

    private static void fractionIs(MadeItSo x, String where, long above, long below) {
        due.same("above() " + where, x.above(), above);
        due.same("below() " + where, x.below(), below);
    }

    private static void chanceAheadOfAny() {
        due.about("Promise 10: ahead of any .. these are 0 and 1");
        fractionIs(new MadeItSo(), "of the empty object", 0, 1);
        MadeItSo x = Made.pair();
        fractionIs(x, "of two THINGS", 0, 1);
        x.weight(Made.is(1, 1), Made.is(0, 1));
        x.agrees(0, 1, 0, 1, 1);
        x.otherwise(0, 1, 1);
        fractionIs(x, "behind other calls", 0, 1);
        fractionIs(Made.dense(MOST), "of the full object", 0, 1);
    }

    private static void chanceBehindZeroOrNone() {
        due.about("Promise 10: behind 0 or NONE, these are 0 and 1");
        MadeItSo x = Made.pair();
        int[][] wrong = {{4, 0, 0}, {0, 4, 0}, {0, 0, 4}, {256, 0, 0}, {-1, -1, -1}};
        for (int[] no : wrong) {
            fraction(x, Made.is(0, 1), Made.is(1, 1), 0, 27, 41);
            due.same("chance NONE", x.chance(no[0], no[1], no[2]), NONE);
            fractionIs(x, "behind NONE", 0, 1);
        }
        fraction(x, Made.is(0, 1), Made.is(1, 1), 0, 27, 41);
        due.same("chance 0", x.chance(0, Made.is(0, 1), Made.is(0, 0)), 0);
        fractionIs(x, "behind 0", 0, 1);
        fraction(x, Made.is(0, 1), Made.is(1, 1), 0, 27, 41);
    }

    private static void lowestTerms() {
        due.about("Promise 11: in lowest terms; Promise 12: What it is below the line");
        MadeItSo seldom = eightOfParts(1);
        fraction(seldom, 65535, 0, 0, 1, HUNDRED_TO_8);
        fraction(seldom, 255, 0, 0, 9227446944279201L, HUNDRED_TO_8);
        fraction(seldom, Made.is(7, 1), 0, 0, 1, 100);
        fraction(eightOfParts(99), 65535, 0, 0, 9227446944279201L, HUNDRED_TO_8);
        fraction(eightOfParts(100), 65535, 0, 0, 1, 1);
        fraction(eightOfParts(100), 255, 0, 0, 0, 1);
        fraction(eightOfParts(60), Made.ones(2), 0, 0, 9, 25);
        fraction(eightOfParts(50), 65535, 0, 0, 1, 256);
    }

    private static void latestChance() {
        due.about("Promise 11: What the latest chance() is above the line");
        MadeItSo x = Made.pair();
        fraction(x, Made.is(0, 1), Made.is(1, 1), 0, 27, 41);
        fractionIs(x, "asked again", 27, 41);
        fraction(x, Made.is(0, 1), 0, 0, 3, 10);
        x.book(0, 0, 70);
        x.thing(true);
        x.turn(0, 1);
        fractionIs(x, "when BOOKS and ARROWS are others", 3, 10);
        fraction(x, Made.is(0, 1), 0, 0, 1, 2);
    }

    private static void agreesThings() {
        due.about("Promise 17: NONE if one is none (a THING)");
        for (int things = 2; things <= MOST; things++) {
            MadeItSo x = Made.drawn(things);
            due.same("first and last of " + things, x.agrees(0, things - 1, 0, 1, 1), 1);
            due.same("last and first of " + things, x.agrees(things - 1, 0, 0, 1, 1), 1);
            for (int no : new int[] {-1, things, 8, 32, -32, LEAST_INT, GREATEST_INT}) {
                due.same("agrees(" + no + ", 0, ..) of " + things, x.agrees(no, 0, 0, 1, 1), NONE);
                due.same("agrees(0, " + no + ", ..) of " + things, x.agrees(0, no, 0, 1, 1), NONE);
            }
        }
    }

    private static void agreesHeaps() {
        due.about("Promise 17: NONE if one is none (a HEAP), z has a or b");
        for (int things = 2; things <= MOST; things++) {
            MadeItSo x = Made.drawn(things);
            int last = things - 1;
            int rest = Made.all(things) & ~1 & ~(1 << last);
            due.same("all others of " + things, x.agrees(0, last, rest, 1, 1), 1);
            due.same("z has a", x.agrees(0, last, rest | 1, 1, 1), NONE);
            due.same("z has b", x.agrees(0, last, rest | 1 << last, 1, 1), NONE);
            due.same("z has both", x.agrees(0, last, Made.all(things), 1, 1), NONE);
            due.same("z has a alone", x.agrees(last, 0, 1 << last, 1, 1), NONE);
            due.same("z has b alone", x.agrees(last, 0, 1, 1, 1), NONE);
            for (int no : new int[] {1 << things, rest | 1 << things, 256, 1 << 16, LEAST_INT, -2 & ~(1 << last)}) {
                due.same("agrees(0, last, " + no + ", ..) of " + things, x.agrees(0, last, no, 1, 1), NONE);
            }
        }
    }

    private static void agreesZeroOrOne() {
        due.about("Promise 17: or u or v is not 0 or 1");
        MadeItSo x = Made.pair();
        for (int u = 0; u < 2; u++) {
            for (int v = 0; v < 2; v++) {
                due.same("agrees(0, 1, 0, " + u + ", " + v + ")", x.agrees(0, 1, 0, u, v), 1);
                due.same("agrees(1, 0, 0, " + u + ", " + v + ")", x.agrees(1, 0, 0, u, v), 0);
            }
        }
        for (int no : new int[] {-1, 2, 3, -2, 256, 257, LEAST_INT, LEAST_INT + 1, GREATEST_INT}) {
            for (int right = 0; right < 2; right++) {
                due.same("u is " + no, x.agrees(0, 1, 0, no, right), NONE);
                due.same("v is " + no, x.agrees(0, 1, 0, right, no), NONE);
            }
            due.same("both are " + no, x.agrees(0, 1, 0, no, no), NONE);
        }
        x.book(0, 0, 100);
        due.same("it can't be told", x.agrees(0, 1, 0, 0, 1), -2);
        due.same("it can't be told, but v is 2", x.agrees(0, 1, 0, 0, 2), NONE);
    }

    /** 2 to 7 lead to 0 and to 1, and 0 leads to 1; only all six together are enough. */
    private static MadeItSo sixCauses() {
        MadeItSo x = Made.drawn(MOST, 0, 1);
        for (int k = 2; k < MOST; k++) {
            Made.join(x, k, 0);
            Made.join(x, k, 1);
        }
        for (int row = 0; row < 64; row++) {
            x.book(0, row, 1 + (row * 37 + 5) % 99);
        }
        for (int row = 0; row < 128; row++) {
            x.book(1, row, 1 + (row * 53 + 11) % 99);
        }
        return x;
    }

    private static void agreesEmptyAndFullHeap() {
        due.about("The SUM over z .. over all SETTINGS of z (the empty HEAP has one, six THINGS have 64)");
        MadeItSo x = sixCauses();
        for (int u = 0; u < 2; u++) {
            for (int v = 0; v < 2; v++) {
                due.same("all six, " + u + v, x.agrees(0, 1, 252, u, v), 1);
                due.same("none, " + u + v, x.agrees(0, 1, 0, u, v), 0);
                for (int k = 2; k < MOST; k++) {
                    due.same("all but " + k + ", " + u + v, x.agrees(0, 1, 252 & ~(1 << k), u, v), 0);
                }
            }
        }
        MadeItSo alone = Made.drawn(2);
        due.same("none, and two THINGS apart", alone.agrees(0, 1, 0, 0, 0), 1);
    }

    private static void agreesCannotBeTold() {
        due.about("it can't be told, where z has a WEIGHT above 0, and z and a together have none");
        MadeItSo x = Made.drawn(3, 2, 0, 0, 1);
        x.book(0, 0, 100);
        x.book(0, 1, 50);
        due.same("2 is 0 half the times, and 0 is 1 then", x.agrees(0, 1, 4, 0, 1), -2);
        due.same("for u being 1", x.agrees(0, 1, 4, 1, 1), 1);
        due.same("without 2", x.agrees(0, 1, 0, 0, 1), 1);
        x.book(2, 0, 99);
        due.same("2 is 0 once of 100", x.agrees(0, 1, 4, 0, 1), -2);
        x.book(2, 0, 100);
        due.same("2 is never 0", x.agrees(0, 1, 4, 0, 1), 1);
        x.book(0, 1, 100);
        due.same("0 is always 1", x.agrees(0, 1, 4, 0, 1), -2);
        due.same("0 is always 1, without 2", x.agrees(0, 1, 0, 0, 1), -2);
        MadeItSo six = sixCauses();
        for (int k = 2; k < MOST; k++) {
            six.book(k, 0, 1);
        }
        six.book(0, 63, 0);
        due.same("the last of 64 SETTINGS, 1 of 100 to the 6th", six.agrees(0, 1, 252, 1, 1), -2);
        six.book(7, 0, 0);
        due.same("the last of 64 SETTINGS has no WEIGHT", six.agrees(0, 1, 252, 1, 1), 1);
        six.book(0, 0, 0);
        due.same("the first of 64 SETTINGS", six.agrees(0, 1, 252, 1, 1), -2);
    }

    private static void agreesByTheLeast() {
        due.about("Promise 17: is just what the DEED makes of b");
        MadeItSo x = Made.drawn(3, 2, 0, 0, 1, 2, 1);
        x.book(2, 0, 1);
        x.book(0, 1, 51);
        due.same("2 tells of 0 alone", x.agrees(0, 1, 0, 1, 1), 1);
        x.book(1, 3, 51);
        due.same("2 tells of 1 once of 100 in one ROW", x.agrees(0, 1, 0, 1, 1), 0);
        due.same("and v being 0", x.agrees(0, 1, 0, 1, 0), 0);
        due.same("not in the other ROWS", x.agrees(0, 1, 0, 0, 1), 1);
        due.same("with 2", x.agrees(0, 1, 4, 1, 1), 1);
    }

    private static void otherwiseWhats() {
        due.about("Promise 20: NONE for others");
        MadeItSo x = Made.pair();
        long[] answers = {7000, 8000, 2100, 2400, 2700};
        for (int what = 0; what < 5; what++) {
            due.same("otherwise(0, 1, " + what + ")", x.otherwise(0, 1, what), answers[what]);
        }
        for (int no : new int[] {-1, 5, 6, -5, 256, LEAST_INT, GREATEST_INT}) {
            due.same("otherwise(0, 1, " + no + ")", x.otherwise(0, 1, no), NONE);
        }
    }

    private static void otherwiseThings() {
        due.about("Promise 20: if there is no such THING, or both are one");
        for (int things = 1; things <= MOST; things++) {
            MadeItSo x = Made.drawn(things);
            for (int what = 0; what < 5; what++) {
                for (int no : new int[] {-1, things, 8, 32, -32, LEAST_INT, GREATEST_INT}) {
                    due.same("otherwise(" + no + ", 0) of " + things, x.otherwise(no, 0, what), NONE);
                    due.same("otherwise(0, " + no + ") of " + things, x.otherwise(0, no, what), NONE);
                }
                due.same("the first twice", x.otherwise(0, 0, what), NONE);
                due.same("the last twice", x.otherwise(things - 1, things - 1, what), NONE);
                if (things > 1) {
                    due.yes("first and last of " + things, x.otherwise(0, things - 1, what) != NONE);
                    due.yes("last and first of " + things, x.otherwise(things - 1, 0, what) != NONE);
                }
            }
        }
    }

    /** 2 leads to 0 and 1, 0 leads to 1; the BOOKS of 2, of 0 (two ROWS) and of 1 (four). */
    private static MadeItSo confounded(int... parts) {
        MadeItSo x = Made.drawn(3, 2, 0, 2, 1, 0, 1);
        x.book(2, 0, parts[0]);
        x.book(0, 0, parts[1]);
        x.book(0, 1, parts[2]);
        for (int row = 0; row < 4; row++) {
            x.book(1, row, parts[3 + row]);
        }
        return x;
    }

    private static void knows(MadeItSo x, long setOne, long setZero, long seenOne) {
        due.same("D1", x.weight(Made.is(1, 1), Made.is(0, 1)), setOne);
        due.same("D0", x.weight(Made.is(1, 1), Made.is(0, 0)), setZero);
        due.same("P(b is 1)", x.weight(Made.is(1, 1), 0), seenOne);
    }

    private static void otherwiseEachBound() {
        due.about("BOTH: at least the greatest of .., at most the least of ..; NEED likewise");
        MadeItSo less = confounded(10, 50, 50, 90, 50, 70, 10);
        knows(less, 460000, 880000, 670000);
        due.same("BOTH is at least 0", less.otherwise(0, 1, 0), 0);
        due.same("BOTH is at most N - D0", less.otherwise(0, 1, 1), 120000);
        due.same("NEED is at least 0", less.otherwise(0, 1, 2), 0);
        due.same("NEED is at most N - D0 - P(both 0)", less.otherwise(0, 1, 3), 60000);
        MadeItSo more = confounded(20, 20, 20, 0, 20, 0, 10);
        knows(more, 180000, 0, 36000);
        due.same("BOTH is at least D1 - D0", more.otherwise(0, 1, 0), 180000);
        due.same("NEED is at least P(b is 1) - D0", more.otherwise(0, 1, 2), 36000);
        MadeItSo seen = confounded(20, 10, 90, 50, 10, 50, 70);
        knows(seen, 220000, 500000, 504000);
        due.same("BOTH is at least P(b is 1) - D0", seen.otherwise(0, 1, 0), 4000);
        MadeItSo done = confounded(10, 0, 90, 0, 70, 100, 50);
        knows(done, 680000, 100000, 55000);
        due.same("BOTH is at least D1 - P(b is 1)", done.otherwise(0, 1, 0), 625000);
        due.same("BOTH is at most D1 - D0 + P(a 1, b 0) + P(a 0, b 1)", done.otherwise(0, 1, 1), 635000);
        MadeItSo never = confounded(0, 90, 90, 10, 0, 70, 70);
        knows(never, 0, 100000, 10000);
        due.same("BOTH is at most D1", never.otherwise(0, 1, 1), 0);
        due.same("NEED is at most P(both 1)", never.otherwise(0, 1, 3), 0);
        MadeItSo same = confounded(70, 70, 10, 20, 50, 20, 100);
        knows(same, 850000, 200000, 319000);
        due.same("BOTH is at most P(a, b both 1) + P(both 0)", same.otherwise(0, 1, 1), 751000);
        due.same("NEED is a part of P(both 1)", same.otherwise(0, 1, 4), 175000);
    }

    private static void otherwiseOfTheFullOne() {
        due.about("Let N be 100 to the power of n");
        long[] answers = {7000, 8000, 2100, 2400, 2700};
        MadeItSo x = Made.pair();
        for (int things = 2; things <= MOST; things++) {
            long rest = Made.hundredTo(things - 2);
            for (int what = 0; what < 5; what++) {
                due.same("of " + things + ", " + what, x.otherwise(0, 1, what), answers[what] * rest);
            }
            x.thing(false);
        }
    }

    private static void otherwiseNeverAndAlways() {
        due.about("OTHERWISE, where a and b are never or always 1");
        MadeItSo x = Made.drawn(MOST);
        long[] neverNever = {0, 0, 0, 0, 0};
        long[] alwaysAlways = {0, 0, 0, 0, HUNDRED_TO_8};
        long[] mirrored = {HUNDRED_TO_8, HUNDRED_TO_8, HUNDRED_TO_8, HUNDRED_TO_8, HUNDRED_TO_8};
        for (int parts = 0; parts <= 100; parts += 100) {
            x.book(0, 0, parts);
            x.book(7, 0, parts);
            for (int what = 0; what < 5; what++) {
                long want = parts == 0 ? neverNever[what] : alwaysAlways[what];
                due.same("both " + parts + ", " + what, x.otherwise(0, 7, what), want);
            }
        }
        Made.join(x, 0, 7);
        x.book(7, 0, 0);
        x.book(7, 1, 100);
        for (int what = 0; what < 5; what++) {
            due.same("7 is what 0 is, " + what, x.otherwise(0, 7, what), mirrored[what]);
        }
    }

    /** Just the number that a seed gives for one THING: it is 1 for all parts above it, and for no others. */
    private static void numberIs(int seed, int number) {
        MadeItSo x = Made.drawn(1);
        x.book(0, 0, number);
        due.same("draw(" + seed + ", 0) of parts " + number, x.draw(seed, 0), 0);
        x.book(0, 0, number + 1);
        due.same("draw(" + seed + ", 0) of parts " + (number + 1), x.draw(seed, 0), 1);
    }

    private static void drawWrapsAround() {
        due.about("Promise 21: the seed becomes seed * 1103515245 + 12345 (32 bits, it wraps)");
        // 12345, which is shifted to 0
        numberIs(0, 0);
        // 1103527590: the last that has no sign; 16838
        numberIs(1, 38);
        // 2207042835: the first that has one; 33676
        numberIs(2, 76);
        // 3310558080: the last of 32 bits; 50515
        numberIs(3, 15);
        // 4414073325, which wraps to 119106029; 1817
        numberIs(4, 17);
        // -1103502900, which wraps to 3191464396; 48697
        numberIs(-1, 97);
        // 2147483648 + 12345; 32768
        numberIs(LEAST_INT, 68);
        // 2147483648 - 1103502900; 15929
        numberIs(GREATEST_INT, 29);
        long[] seeds = {0, 1, 2, 3, 4, 5, -1, -2, LEAST_INT, LEAST_INT + 1, GREATEST_INT, GREATEST_INT - 1, 65536, 99999999};
        for (long seed : seeds) {
            int due8 = 0;
            long state = seed & 0xFFFFFFFFL;
            MadeItSo x = eightOfParts(37);
            for (int k = 0; k < MOST; k++) {
                state = (state * 1103515245L + 12345L) % (1L << 32);
                due8 |= state / 65536 % 100 < 37 ? 1 << k : 0;
            }
            due.same("draw(" + seed + ", 0) of eight", x.draw((int) seed, 0), due8);
        }
    }

    private static void drawWithoutSign() {
        due.about("Promise 21: (seed shifted right by 16, without sign) modulo 100");
        MadeItSo never = eightOfParts(0);
        MadeItSo always = eightOfParts(100);
        for (int seed = -50; seed < 50; seed++) {
            int far = seed * 43000000;
            due.same("draw(" + far + ", 0) of never", never.draw(far, 0), 0);
            due.same("draw(" + far + ", 0) of always", always.draw(far, 0), 255);
        }
    }

    private static void drawLessThanTheBook() {
        due.about("Promise 21: and it is 1, if .. is less than what its BOOK says");
        int[] numbers = {38, 26, 13, 83};
        for (int k = 0; k < numbers.length; k++) {
            MadeItSo x = Made.drawn(numbers.length);
            for (int other = 0; other < numbers.length; other++) {
                x.book(other, 0, numbers[other]);
            }
            due.same("each just its number", x.draw(1, 0), 0);
            x.book(k, 0, numbers[k] + 1);
            due.same("one more for " + k, x.draw(1, 0), 1 << k);
        }
    }

    /** 39, 27, 14, 84 are just above what seed 1 gives one THING after the other. */
    private static void drawByTurns() {
        due.about("Promise 21: each when all its PARENTS came, of several the least number");
        int[] justAbove = {39, 27, 14, 84};
        int[][] orders = {{0, 1, 2, 3}, {3, 2, 1, 0}, {1, 3, 0, 2}, {2, 0, 3, 1}};
        for (int[] order : orders) {
            MadeItSo x = Made.drawn(4, order[0], order[1], order[1], order[2], order[2], order[3]);
            for (int i = 0; i < 4; i++) {
                x.book(order[i], 0, i == 0 ? justAbove[0] : 0);
                x.book(order[i], 1, justAbove[i]);
            }
            due.same("a row from " + order[0], x.draw(1, 0), 15);
            x.book(order[3], 1, justAbove[3] - 1);
            due.same("the last of it by one less", x.draw(1, 0), 15 & ~(1 << order[3]));
        }
        // 0 waits for 2: 1 and 2 come first, then 0 ahead of 3
        MadeItSo waits = Made.drawn(4, 2, 0);
        waits.book(1, 0, 39);
        waits.book(2, 0, 27);
        waits.book(0, 1, 14);
        waits.book(3, 0, 84);
        due.same("one that waits comes as soon as it can", waits.draw(1, 0), 15);
        // 0 waits for both 1 and 3
        MadeItSo both = Made.drawn(4, 1, 0, 3, 0);
        both.book(1, 0, 39);
        both.book(2, 0, 27);
        both.book(3, 0, 14);
        both.book(0, 3, 84);
        due.same("one that waits for two", both.draw(1, 0), 15);
    }

    private static void drawUnderDeeds() {
        due.about("Promise 21: one that the DEED sets is that (the seed goes on all the same)");
        MadeItSo x = Made.drawn(4);
        int[] justAbove = {39, 27, 14, 84};
        for (int k = 0; k < 4; k++) {
            x.book(k, 0, justAbove[k]);
        }
        due.same("the empty DEED", x.draw(1, 0), 15);
        for (int heap = 0; heap < 16; heap++) {
            due.same("set to 0: " + heap, x.draw(1, heap), 15 & ~heap);
            due.same("set to 1: " + heap, x.draw(1, heap * 257), 15);
        }
        for (int k = 0; k < 4; k++) {
            x.book(k, 0, justAbove[k] - 1);
        }
        for (int heap = 0; heap < 16; heap++) {
            due.same("by one less, set to 1: " + heap, x.draw(1, heap * 257), heap);
        }
        MadeItSo full = Made.dense(MOST);
        due.same("all eight set to 0", full.draw(7, 255), 0);
        due.same("all eight set to 1", full.draw(7, 65535), 255);
        MadeItSo never = eightOfParts(0);
        due.same("never, but set to 1", never.draw(7, Made.is(7, 1)), 128);
        MadeItSo row = Made.pair();
        row.book(0, 0, 0);
        row.book(1, 0, 0);
        row.book(1, 1, 100);
        due.same("what comes of a DEED", row.draw(1, Made.is(0, 1)), 3);
        due.same("what comes without it", row.draw(1, 0), 0);
    }

    private static void drawDeedIsNone() {
        due.about("Promise 21: NONE if the DEED is none");
        for (int things = 0; things <= MOST; things++) {
            MadeItSo x = Made.drawn(things);
            int[] none = {1 << things, 2 << things, 256, 65536, -1, LEAST_INT, Made.all(things) | 65536};
            for (int no : none) {
                due.same("draw(1, " + no + ") of " + things, x.draw(1, no), NONE);
            }
            due.yes("draw under all of " + things, x.draw(1, Made.ones(things)) == Made.all(things));
        }
    }
}
