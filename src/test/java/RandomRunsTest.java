import java.util.Random;

/** Long runs of calls with arguments right and wrong, compared call by call with the plain program. */
public final class RandomRunsTest {
    private static final int RUNS = 450;
    private static final int MOST_CALLS = 512;
    // what one round asks at most, above() and below() counted
    private static final int MOST_OF_A_ROUND = 7;
    private static final int[] ODD = {
        -1, 8, 9, 31, 32, 33, 255, 256, 65535, 65536, 65537, -256, 1 << 30, Integer.MAX_VALUE, Integer.MIN_VALUE
    };

    private final Due due = new Due();
    private final Random random;
    private final int run;
    private final MadeItSo program = new MadeItSo();
    private final PlainMadeItSo plain = new PlainMadeItSo();
    private final int wanted;
    private final int books;
    private int things = 0;

    private RandomRunsTest(int run) {
        this.run = run;
        this.random = new Random(7919L * run + 17);
        this.wanted = run % 9;
        this.books = run / 9 % 4;
    }

    public static void main(String[] args) {
        long calls = 0;
        for (int run = 0; run < RUNS; run++) {
            RandomRunsTest test = new RandomRunsTest(run);
            test.go();
            calls += test.due.compared();
            if (test.due.anyWrong()) {
                test.due.end();
            }
        }
        System.out.println(RUNS + " runs, " + calls + " calls, all as due");
    }

    private void go() {
        for (int k = 0; k < wanted; k++) {
            bringThing();
        }
        for (int i = 0; i < random.nextInt(4 * wanted + 1); i++) {
            changeArrows(0);
        }
        for (int i = 0; i < 8 * wanted; i++) {
            changeBook();
        }
        while (due.compared() <= MOST_CALLS - MOST_OF_A_ROUND) {
            call(random.nextInt(40));
            due.same("above()", program.above(), plain.above());
            due.same("below()", program.below(), plain.below());
        }
    }

    private void call(int kind) {
        if (kind < 3) {
            changeArrows(random.nextInt(3));
        } else if (kind < 8) {
            changeBook();
        } else if (kind == 8) {
            if (random.nextInt(20) == 0) {
                bringThing();
            }
        } else if (kind < 12) {
            askBooks();
        } else if (kind < 20) {
            askWeights();
        } else if (kind < 32) {
            askHeaps();
        } else if (kind < 37) {
            askOtherwise();
        } else {
            askAlike();
        }
    }

    private void bringThing() {
        boolean seen = random.nextInt(4) != 0;
        due.same(name("thing", seen ? 1 : 0), program.thing(seen), plain.thing(seen));
        things = plain.count(0);
    }

    private void changeArrows(int kind) {
        int from = thing();
        int to = thing();
        if (kind == 0) {
            due.same(name("arrow", from, to), program.arrow(from, to), plain.arrow(from, to));
        } else if (kind == 1) {
            due.same(name("cut", from, to), program.cut(from, to), plain.cut(from, to));
        } else {
            due.same(name("turn", from, to), program.turn(from, to), plain.turn(from, to));
        }
    }

    private void changeBook() {
        int thing = thing();
        int row = row(thing);
        int parts = parts();
        due.same(name("book", thing, row, parts), program.book(thing, row, parts), plain.book(thing, row, parts));
    }

    private void askBooks() {
        int thing = thing();
        int row = row(thing);
        int what = small(4);
        due.same(name("booked", thing, row), program.booked(thing, row), plain.booked(thing, row));
        due.same(name("told", thing, what), program.told(thing, what), plain.told(thing, what));
        due.same(name("count", what), program.count(what), plain.count(what));
    }

    private void askWeights() {
        int setting = setting();
        int given = setting();
        int deed = random.nextBoolean() ? 0 : setting();
        int seed = random.nextInt();
        due.same(name("weight", setting, deed), program.weight(setting, deed), plain.weight(setting, deed));
        if (random.nextBoolean()) {
            due.same(name("chance", setting, given, deed),
                program.chance(setting, given, deed), plain.chance(setting, given, deed));
        }
        due.same(name("draw", seed, deed), program.draw(seed, deed), plain.draw(seed, deed));
    }

    private void askHeaps() {
        int a = thing();
        int b = thing();
        int z = random.nextInt(3) == 0 ? heap() : heapWithout(a, b);
        int u = small(2);
        int v = small(2);
        int i = small(4);
        due.same(name("fit", a, b, z), program.fit(a, b, z), plain.fit(a, b, z));
        due.same(name("agrees", a, b, z, u, v), program.agrees(a, b, z, u, v), plain.agrees(a, b, z, u, v));
        due.same(name("least", a, b), program.least(a, b), plain.least(a, b));
        due.same(name("leastAt", a, b, i), program.leastAt(a, b, i), plain.leastAt(a, b, i));
        int one = heap();
        int other = random.nextInt(8) == 0 ? heap() : heap() & ~one;
        int third = random.nextInt(8) == 0 ? heap() : heap() & ~one & ~other;
        due.same(name("bars", one, other, third), program.bars(one, other, third), plain.bars(one, other, third));
    }

    private void askOtherwise() {
        int a = thing();
        int b = thing();
        int what = small(5);
        due.same(name("otherwise", a, b, what), program.otherwise(a, b, what), plain.otherwise(a, b, what));
    }

    private void askAlike() {
        if (things == 8 && random.nextInt(5) != 0) {
            return;
        }
        int from = thing();
        int to = thing();
        due.same("alike()", program.alike(), plain.alike());
        due.same(name("fixed", from, to), program.fixed(from, to), plain.fixed(from, to));
    }

    private int odd() {
        return ODD[random.nextInt(ODD.length)];
    }

    private boolean seldom() {
        return random.nextInt(30) == 0;
    }

    private int thing() {
        return seldom() ? odd() : random.nextInt(things + (seldom() ? 2 : 1)) - (seldom() ? 1 : 0);
    }

    private int row(int thing) {
        if (seldom()) {
            return odd();
        }
        int parents = thing < 0 ? 0 : Math.max(0, plain.told(thing, 1));
        return random.nextInt((1 << Integer.bitCount(parents)) + (seldom() ? 1 : 0));
    }

    private int parts() {
        if (seldom()) {
            return random.nextBoolean() ? 101 : odd();
        }
        switch (books) {
            case 0:
                return random.nextInt(101);
            case 1:
                return 100 * random.nextInt(2);
            case 2:
                return 25 * random.nextInt(5);
            default:
                return 1 + random.nextInt(99);
        }
    }

    private int small(int most) {
        return seldom() ? odd() : random.nextInt(most + (random.nextInt(6) == 0 ? 1 : 0));
    }

    private int heap() {
        return seldom() ? odd() : random.nextInt((1 << things) + (seldom() ? 1 : 0));
    }

    private int heapWithout(int a, int b) {
        int heap = random.nextInt(1 << things);
        for (int k : new int[] {a, b}) {
            if (k >= 0 && k < things) {
                heap &= ~(1 << k);
            }
        }
        return heap;
    }

    private int setting() {
        if (seldom()) {
            return odd();
        }
        int heap = heap() & 255 & (random.nextBoolean() ? random.nextInt(256) : 255);
        int ones = random.nextInt(256) & (seldom() ? 255 : heap);
        return heap | ones << 8;
    }

    private String name(String method, int... args) {
        StringBuilder text = new StringBuilder("run " + run + ": " + method + "(");
        for (int i = 0; i < args.length; i++) {
            text.append(i == 0 ? "" : ", ").append(args[i]);
        }
        return text.append(")").toString();
    }
}
