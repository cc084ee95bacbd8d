/** Drawings that several tests begin with; all their THINGS are SEEN. */
final class Made {
    static final int MOST = 8;

    private Made() {
    }

    /** That many THINGS with these ARROWS: from, to, from, to, .. */
    static MadeItSo drawn(int things, int... arrows) {
        MadeItSo x = new MadeItSo();
        for (int k = 0; k < things; k++) {
            x.thing(true);
        }
        for (int i = 0; i + 1 < arrows.length; i += 2) {
            join(x, arrows[i], arrows[i + 1]);
        }
        return x;
    }

    /** THINGS of which those of a HEAP are SEEN. */
    static MadeItSo seen(int things, int heap) {
        MadeItSo x = new MadeItSo();
        for (int k = 0; k < things; k++) {
            x.thing((heap >> k & 1) == 1);
        }
        return x;
    }

    /** 0 leads to 1: CASES 00, 10, 01, 11 (what 0 is, what 1 is) weigh 5600, 300, 1400, 2700. */
    static MadeItSo pair() {
        MadeItSo x = drawn(2, 0, 1);
        x.book(0, 0, 30);
        x.book(1, 0, 20);
        x.book(1, 1, 90);
        return x;
    }

    /** 0 leads to 1, 1 to 2, and so on. */
    static MadeItSo row(int things) {
        MadeItSo x = drawn(things);
        for (int k = 0; k + 1 < things; k++) {
            join(x, k, k + 1);
        }
        return x;
    }

    /** Each THING leads to all that have a greater number. */
    static MadeItSo dense(int things) {
        MadeItSo x = drawn(things);
        for (int from = 0; from < things; from++) {
            for (int to = from + 1; to < things; to++) {
                join(x, from, to);
            }
        }
        return x;
    }

    /** All others lead to one, the greatest number first. */
    static MadeItSo inward(int things, int to) {
        MadeItSo x = drawn(things);
        for (int from = things - 1; from >= 0; from--) {
            if (from != to) {
                join(x, from, to);
            }
        }
        return x;
    }

    /** Eight THINGS apart, each 1 so many of 100 times. */
    static MadeItSo eight(int parts) {
        MadeItSo x = drawn(MOST);
        for (int k = 0; k < MOST; k++) {
            x.book(k, 0, parts);
        }
        return x;
    }

    /** The SETTING in which one THING is that. */
    static int is(int thing, int value) {
        return 1 << thing | value << (thing + 8);
    }

    /** The HEAP of that many THINGS. */
    static int all(int things) {
        return (1 << things) - 1;
    }

    /** The SETTING in which that many THINGS are all 1. */
    static int ones(int things) {
        return all(things) * 257;
    }

    static long hundredTo(int power) {
        long product = 1;
        for (int i = 0; i < power; i++) {
            product *= 100;
        }
        return product;
    }

    static void join(MadeItSo x, int from, int to) {
        if (!x.arrow(from, to)) {
            throw new IllegalStateException("arrow(" + from + ", " + to + ") is refused");
        }
    }
}
