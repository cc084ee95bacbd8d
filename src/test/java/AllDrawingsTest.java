/** What the drawing alone tells, of every drawing of up to four THINGS and of some of five. */
public final class AllDrawingsTest {
    private static final Due due = new Due();

    public static void main(String[] args) {
        for (int things = 1; things <= 4; things++) {
            drawAll(things, 1);
        }
        drawAll(5, 97);
        due.end();
    }

    /** Each two THINGS are joined one way, the other way, or not: numbers to the base 3. */
    private static void drawAll(int things, int step) {
        int drawings = 1;
        for (int pair = 0; pair < things * (things - 1) / 2; pair++) {
            drawings *= 3;
        }
        for (int number = 0; number < drawings; number += step) {
            compare(things, number);
        }
    }

    private static void compare(int things, int number) {
        MadeItSo program = new MadeItSo();
        PlainMadeItSo plain = new PlainMadeItSo();
        for (int k = 0; k < things; k++) {
            boolean seen = (number * 7 + k * 5) % 4 != 0;
            due.same("thing", program.thing(seen), plain.thing(seen));
        }
        int rest = number;
        for (int from = 0; from < things; from++) {
            for (int to = from + 1; to < things; to++) {
                if (rest % 3 == 1) {
                    due.same("arrow", program.arrow(from, to), plain.arrow(from, to));
                } else if (rest % 3 == 2) {
                    due.same("arrow", program.arrow(to, from), plain.arrow(to, from));
                }
                rest /= 3;
            }
        }
        String where = things + " things, drawing " + number + ": ";
        compareHeaps(where, things, program, plain);
        compareThings(where, things, program, plain);
    }

    private static void compareHeaps(String where, int things, MadeItSo program, PlainMadeItSo plain) {
        int heaps = 1 << things;
        for (int a = 0; a < heaps; a++) {
            for (int b = 0; b < heaps; b++) {
                for (int z = 0; z < heaps && (a & b) == 0; z++) {
                    due.same(where + "bars(" + a + ", " + b + ", " + z + ")", program.bars(a, b, z), plain.bars(a, b, z));
                }
            }
        }
    }

    private static void compareThings(String where, int things, MadeItSo program, PlainMadeItSo plain) {
        due.same(where + "alike()", program.alike(), plain.alike());
        for (int a = 0; a < things; a++) {
            due.same(where + "told below " + a, program.told(a, 3), plain.told(a, 3));
            for (int b = 0; b < things; b++) {
                String two = "(" + a + ", " + b;
                due.same(where + "fixed" + two + ")", program.fixed(a, b), plain.fixed(a, b));
                int least = plain.least(a, b);
                due.same(where + "least" + two + ")", program.least(a, b), least);
                for (int i = 0; i <= least; i++) {
                    due.same(where + "leastAt" + two + ", " + i + ")", program.leastAt(a, b, i), plain.leastAt(a, b, i));
                }
                for (int z = 0; z < 1 << things; z++) {
                    due.same(where + "fit" + two + ", " + z + ")", program.fit(a, b, z), plain.fit(a, b, z));
                }
            }
        }
    }
}
