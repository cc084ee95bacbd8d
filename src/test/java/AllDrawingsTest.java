/** What the drawing alone tells, of every drawing of up to four THINGS and of some of five. */
public final class AllDrawingsTest {
    private static final int MOST_CALLS = 512;
    private static final Due due = new Due();

    private final int things;
    private final int number;
    private final PlainMadeItSo plain;
    private MadeItSo program;
    private int calls;

    private AllDrawingsTest(int things, int number) {
        this.things = things;
        this.number = number;
        this.plain = draw();
    }

    public static void main(String[] args) {
        for (int things = 1; things <= 4; things++) {
            drawAll(things, 1);
        }
        drawAll(5, 97);
        due.end();
    }

    /** Each two THINGS are joined one way, the other way, or not: numbers to the base 3. */
    private static void drawAll(int things, int step) {
        int drawings = 1;
        for (int pair = 0; pair < things * (things - 1) / 2; pair++) {
            drawings *= 3;
        }
        for (int number = 0; number < drawings; number += step) {
            AllDrawingsTest test = new AllDrawingsTest(things, number);
            test.compareHeaps();
            test.compareThings();
        }
    }

    /** Makes the program anew, and the plain one beside it. */
    private PlainMadeItSo draw() {
        PlainMadeItSo drawn = new PlainMadeItSo();
        program = new MadeItSo();
        calls = 0;
        for (int k = 0; k < things; k++) {
            boolean seen = (number * 7 + k * 5) % 4 != 0;
            due.same("thing", program().thing(seen), drawn.thing(seen));
        }
        int rest = number;
        for (int from = 0; from < things; from++) {
            for (int to = from + 1; to < things; to++) {
                if (rest % 3 == 1) {
                    due.same("arrow", program().arrow(from, to), drawn.arrow(from, to));
                } else if (rest % 3 == 2) {
                    due.same("arrow", program().arrow(to, from), drawn.arrow(to, from));
                }
                rest /= 3;
            }
        }
        return drawn;
    }

    /** The program for one call more; it is made anew when its calls are used up. */
    private MadeItSo program() {
        if (calls == MOST_CALLS) {
            draw();
        }
        calls++;
        return program;
    }

    private void same(String call, long got, long want) {
        due.same(things + " things, drawing " + number + ": " + call, got, want);
    }

    private void same(String call, boolean got, boolean want) {
        same(call, got ? 1 : 0, want ? 1 : 0);
    }

    private void compareHeaps() {
        int heaps = 1 << things;
        for (int a = 0; a < heaps; a++) {
            for (int b = 0; b < heaps; b++) {
                for (int z = 0; z < heaps && (a & b) == 0; z++) {
                    same("bars(" + a + ", " + b + ", " + z + ")", program().bars(a, b, z), plain.bars(a, b, z));
                }
            }
        }
    }

    private void compareThings() {
        same("alike()", program().alike(), plain.alike());
        for (int a = 0; a < things; a++) {
            same("told below " + a, program().told(a, 3), plain.told(a, 3));
            for (int b = 0; b < things; b++) {
                String two = "(" + a + ", " + b;
                same("fixed" + two + ")", program().fixed(a, b), plain.fixed(a, b));
                int least = plain.least(a, b);
                same("least" + two + ")", program().least(a, b), least);
                for (int i = 0; i <= least; i++) {
                    same("leastAt" + two + ", " + i + ")", program().leastAt(a, b, i), plain.leastAt(a, b, i));
                }
                for (int z = 0; z < 1 << things; z++) {
                    same("fit" + two + ", " + z + ")", program().fit(a, b, z), plain.fit(a, b, z));
                }
            }
        }
    }
}
