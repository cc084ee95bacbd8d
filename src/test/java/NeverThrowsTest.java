/** LANGUAGE.md, rule 7: "No call may ever throw or fail to end, for any arguments in any state". */
public final class NeverThrowsTest {
    private static final int[] EDGES = {
        Integer.MIN_VALUE, Integer.MIN_VALUE + 1, -65536, -256, -32, -2, -1, 0, 1, 2, 3, 6, 7, 8, 9, 31, 32, 33, 63, 64,
        100, 101, 126, 127, 128, 255, 256, 257, 32767, 65535, 65536, 65537, 1 << 30, Integer.MAX_VALUE - 1, Integer.MAX_VALUE
    };
    private static final int[] FEW = {Integer.MIN_VALUE, -1, 0, 1, 2, Integer.MAX_VALUE};
    private static final String[] OF_ONE = {"count"};
    private static final String[] OF_TWO = {"arrow", "cut", "turn", "booked", "told", "weight", "least", "fixed", "draw"};
    private static final String[] OF_THREE = {"book", "chance", "bars", "leastAt", "fit", "otherwise"};

    private static final Due due = new Due();

    public static void main(String[] args) {
        due.about("No call may ever throw or fail to end");
        MadeItSo[] states = {
            new MadeItSo(), Made.drawn(1), Made.pair(), Made.row(7), Made.drawn(Made.MOST), Made.inward(Made.MOST, 3), Made.dense(Made.MOST)
        };
        for (MadeItSo x : states) {
            askAll(x);
        }
        due.end();
    }

    private static void askAll(MadeItSo x) {
        make(x, Call.of("alike"));
        for (int a : EDGES) {
            makeEach(x, OF_ONE, a);
            for (int b : EDGES) {
                makeEach(x, OF_TWO, a, b);
                for (int c : EDGES) {
                    makeEach(x, OF_THREE, a, b, c);
                    askAgrees(x, a, b, c);
                }
            }
        }
        make(x, Call.of("above"));
        make(x, Call.of("below"));
        make(x, Call.of("thing", 1));
        make(x, Call.of("alike"));
    }

    private static void askAgrees(MadeItSo x, int a, int b, int z) {
        for (int u : FEW) {
            for (int v : FEW) {
                make(x, Call.of("agrees", a, b, z, u, v));
            }
        }
    }

    private static void makeEach(MadeItSo x, String[] names, int... args) {
        for (String name : names) {
            make(x, Call.of(name, args));
        }
    }

    private static void make(MadeItSo x, Call call) {
        try {
            call.on(x);
            due.yes("no throw", true);
        } catch (RuntimeException thrown) {
            due.yes(call.text() + " throws " + thrown, false);
        }
    }
}
