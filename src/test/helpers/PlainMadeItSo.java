import java.math.BigInteger;
import java.util.ArrayList;
import java.util.HashSet;
import java.util.List;
import java.util.Set;

/**
 * The document's words, one after the other, without care for speed: every CASE is weighed by itself,
 * every WAY is walked, every order of THINGS is tried. The program is compared with it.
 */
final class PlainMadeItSo {
    private static final int NONE = -1;

    private int n = 0;
    private final boolean[] seen = new boolean[8];
    private final boolean[][] arrow = new boolean[8][8];
    private final int[][] book = new int[8][128];
    private BigInteger above = BigInteger.ZERO;
    private BigInteger below = BigInteger.ONE;

    int thing(boolean isSeen) {
        if (n == 8) {
            return NONE;
        }
        seen[n] = isSeen;
        java.util.Arrays.fill(book[n], 50);
        return n++;
    }

    boolean arrow(int from, int to) {
        if (!is(from) || !is(to) || from == to || arrow[from][to] || arrow[to][from]) {
            return false;
        }
        if (isBelow(arrow, to, from)) {
            return false;
        }
        arrow[from][to] = true;
        java.util.Arrays.fill(book[to], 50);
        return true;
    }

    boolean cut(int from, int to) {
        if (!is(from) || !is(to) || !arrow[from][to]) {
            return false;
        }
        arrow[from][to] = false;
        java.util.Arrays.fill(book[to], 50);
        return true;
    }

    boolean turn(int from, int to) {
        if (!is(from) || !is(to) || !arrow[from][to]) {
            return false;
        }
        boolean[][] turned = copy(arrow);
        turned[from][to] = false;
        turned[to][from] = true;
        for (int k = 0; k < n; k++) {
            if (isBelow(turned, k, k)) {
                return false;
            }
        }
        arrow[from][to] = false;
        arrow[to][from] = true;
        java.util.Arrays.fill(book[to], 50);
        java.util.Arrays.fill(book[from], 50);
        return true;
    }

    boolean book(int thing, int row, int parts) {
        if (booked(thing, row) == NONE || parts < 0 || parts > 100) {
            return false;
        }
        book[thing][row] = parts;
        return true;
    }

    int booked(int thing, int row) {
        if (!is(thing) || row < 0) {
            return NONE;
        }
        int rows = 1;
        for (int k = 0; k < n; k++) {
            rows *= arrow[k][thing] ? 2 : 1;
        }
        return row < rows ? book[thing][row] : NONE;
    }

    int told(int thing, int what) {
        if (!is(thing) || what < 0 || what > 3) {
            return NONE;
        }
        if (what == 0) {
            return seen[thing] ? 1 : 0;
        }
        int heap = 0;
        for (int k = 0; k < n; k++) {
            boolean in = what == 1 ? arrow[k][thing] : what == 2 ? arrow[thing][k] : isBelow(arrow, thing, k);
            heap += in ? 1 << k : 0;
        }
        return heap;
    }

    long weight(int setting, int deed) {
        if (!isSetting(setting) || !isSetting(deed)) {
            return NONE;
        }
        return weightOf(setting, deed);
    }

    int chance(int setting, int given, int deed) {
        above = BigInteger.ZERO;
        below = BigInteger.ONE;
        if (!isSetting(setting) || !isSetting(given) || !isSetting(deed)) {
            return NONE;
        }
        long both = 0;
        for (int c = 0; c < 1 << n; c++) {
            both += has(c, setting) && has(c, given) ? caseWeight(c, deed) : 0;
        }
        long known = weightOf(given, deed);
        if (known == 0) {
            return 0;
        }
        BigInteger shared = BigInteger.valueOf(both).gcd(BigInteger.valueOf(known));
        above = BigInteger.valueOf(both).divide(shared);
        below = BigInteger.valueOf(known).divide(shared);
        return 1;
    }

    long above() {
        return above.longValueExact();
    }

    long below() {
        return below.longValueExact();
    }

    boolean bars(int a, int b, int z) {
        if (!isHeap(a) || !isHeap(b) || !isHeap(z) || (a & b) != 0 || (a & z) != 0 || (b & z) != 0) {
            return false;
        }
        return barsIn(arrow, a, b, z);
    }

    int least(int a, int b) {
        return is(a) && is(b) && a != b ? leastHeaps(a, b).size() : NONE;
    }

    int leastAt(int a, int b, int i) {
        if (least(a, b) == NONE || i < 0 || i >= leastHeaps(a, b).size()) {
            return NONE;
        }
        return leastHeaps(a, b).get(i);
    }

    boolean fit(int a, int b, int z) {
        if (!is(a) || !is(b) || !isHeap(z) || a == b || in(z, a) || in(z, b)) {
            return false;
        }
        for (int k = 0; k < n; k++) {
            if (in(z, k) && !seen[k]) {
                return false;
            }
        }
        if (!isBelow(arrow, a, b)) {
            return barsIn(arrow, 1 << a, 1 << b, z);
        }
        boolean[][] less = copy(arrow);
        for (int r = 0; r < n; r++) {
            boolean onRoad = r == b || isBelow(arrow, a, r) && isBelow(arrow, r, b);
            if (onRoad) {
                less[a][r] = false;
                for (int k = 0; k < n; k++) {
                    if (in(z, k) && (k == r || isBelow(arrow, r, k))) {
                        return false;
                    }
                }
            }
        }
        return barsIn(less, 1 << a, 1 << b, z);
    }

    int agrees(int a, int b, int z, int u, int v) {
        if (!is(a) || !is(b) || !isHeap(z) || in(z, a) || in(z, b) || u < 0 || u > 1 || v < 0 || v > 1) {
            return NONE;
        }
        BigInteger top = BigInteger.ZERO;
        BigInteger bottom = BigInteger.ONE;
        for (int s = 0; s < 1 << n; s++) {
            if ((s & ~z) != 0) {
                continue;
            }
            long ofZ = 0;
            long withA = 0;
            long withBoth = 0;
            for (int c = 0; c < 1 << n; c++) {
                if ((c & z) == s) {
                    long w = caseWeight(c, 0);
                    ofZ += w;
                    withA += (c >> a & 1) == u ? w : 0;
                    withBoth += (c >> a & 1) == u && (c >> b & 1) == v ? w : 0;
                }
            }
            if (ofZ > 0 && withA == 0) {
                return -2;
            }
            if (ofZ > 0) {
                BigInteger share = BigInteger.valueOf(ofZ).multiply(BigInteger.valueOf(withBoth));
                top = top.multiply(BigInteger.valueOf(withA)).add(share.multiply(bottom));
                bottom = bottom.multiply(BigInteger.valueOf(withA));
            }
        }
        long done = 0;
        for (int c = 0; c < 1 << n; c++) {
            done += (c >> b & 1) == v ? caseWeight(c, 1 << a | u << (8 + a)) : 0;
        }
        return top.equals(bottom.multiply(BigInteger.valueOf(done))) ? 1 : 0;
    }

    int alike() {
        return allAlike().size();
    }

    boolean fixed(int from, int to) {
        if (!is(from) || !is(to) || !arrow[from][to]) {
            return false;
        }
        for (long other : allAlike()) {
            if ((other >>> (8 * from + to) & 1) == 0) {
                return false;
            }
        }
        return true;
    }

    long otherwise(int a, int b, int what) {
        if (!is(a) || !is(b) || a == b || what < 0 || what > 4) {
            return NONE;
        }
        int a1 = 1 << a | 1 << (a + 8);
        int a0 = 1 << a;
        int b1 = 1 << b | 1 << (b + 8);
        int b0 = 1 << b;
        long all = weightOf(0, 0);
        long d1 = weightOf(b1, a1);
        long d0 = weightOf(b1, a0);
        long p = weightOf(b1, 0);
        long p11 = weightOf(a1 | b1, 0);
        long p00 = weightOf(a0 | b0, 0);
        long p10 = weightOf(a1 | b0, 0);
        long p01 = weightOf(a0 | b1, 0);
        long[] answers = {
            greatest(0, d1 - d0, p - d0, d1 - p),
            -greatest(-d1, d0 - all, -p11 - p00, d0 - d1 - p10 - p01),
            greatest(0, p - d0),
            -greatest(-p11, d0 + p00 - all),
            p11
        };
        return answers[what];
    }

    int draw(int seed, int deed) {
        if (!isSetting(deed)) {
            return NONE;
        }
        boolean[] came = new boolean[8];
        int c = 0;
        for (int i = 0; i < n; i++) {
            int next = 0;
            while (came[next] || !allCame(next, came)) {
                next++;
            }
            seed = seed * 1103515245 + 12345;
            boolean one = (seed >>> 16) % 100 < book[next][rowOf(next, c)];
            if (in(deed, next)) {
                one = in(deed >> 8, next);
            }
            c += one ? 1 << next : 0;
            came[next] = true;
        }
        return c;
    }

    int count(int what) {
        int arrows = 0;
        int seenHeap = 0;
        for (int k = 0; k < n; k++) {
            seenHeap += seen[k] ? 1 << k : 0;
            for (int m = 0; m < n; m++) {
                arrows += arrow[k][m] ? 1 : 0;
            }
        }
        return what == 0 ? n : what == 1 ? arrows : what == 2 ? seenHeap : NONE;
    }

    private boolean is(int thing) {
        return thing >= 0 && thing < n;
    }

    private boolean isHeap(int heap) {
        return heap >= 0 && heap < 1 << n;
    }

    private boolean isSetting(int setting) {
        if (setting < 0 || setting > 65535 || !isHeap(setting % 256)) {
            return false;
        }
        for (int k = 0; k < 8; k++) {
            if (in(setting / 256, k) && !in(setting % 256, k)) {
                return false;
            }
        }
        return true;
    }

    private static boolean in(int heap, int k) {
        return (heap >> k & 1) == 1;
    }

    private static boolean has(int c, int setting) {
        return (c & setting & 255) == (setting >> 8 & 255);
    }

    private static boolean[][] copy(boolean[][] drawing) {
        boolean[][] other = new boolean[8][];
        for (int k = 0; k < 8; k++) {
            other[k] = drawing[k].clone();
        }
        return other;
    }

    /** Whether y is BELOW x; with x and y one, whether it leads round. */
    private boolean isBelow(boolean[][] drawing, int x, int y) {
        boolean[] reached = new boolean[8];
        List<Integer> todo = new ArrayList<>();
        todo.add(x);
        while (!todo.isEmpty()) {
            int from = todo.remove(todo.size() - 1);
            for (int k = 0; k < n; k++) {
                if (drawing[from][k] && !reached[k]) {
                    reached[k] = true;
                    todo.add(k);
                }
            }
        }
        return reached[y];
    }

    private boolean allCame(int thing, boolean[] came) {
        for (int k = 0; k < n; k++) {
            if (arrow[k][thing] && !came[k]) {
                return false;
            }
        }
        return true;
    }

    private int rowOf(int thing, int c) {
        int row = 0;
        int worth = 1;
        for (int k = 0; k < n; k++) {
            if (arrow[k][thing]) {
                row += in(c, k) ? worth : 0;
                worth *= 2;
            }
        }
        return row;
    }

    private long caseWeight(int c, int deed) {
        if (!has(c, deed)) {
            return 0;
        }
        long product = 1;
        for (int k = 0; k < n; k++) {
            int parts = book[k][rowOf(k, c)];
            product *= in(deed, k) ? 100 : in(c, k) ? parts : 100 - parts;
        }
        return product;
    }

    private long weightOf(int setting, int deed) {
        long sum = 0;
        for (int c = 0; c < 1 << n; c++) {
            sum += has(c, setting) ? caseWeight(c, deed) : 0;
        }
        return sum;
    }

    private boolean barsIn(boolean[][] drawing, int a, int b, int z) {
        boolean[] opens = new boolean[8];
        for (int k = 0; k < n; k++) {
            for (int m = 0; m < n; m++) {
                opens[k] |= in(z, m) && (k == m || isBelow(drawing, k, m));
            }
        }
        for (int k = 0; k < n; k++) {
            if (in(a, k) && openWay(drawing, opens, NONE, k, 1 << k, b, z)) {
                return false;
            }
        }
        return true;
    }

    /** Whether an OPEN WAY goes on from here, where it came from the one before it, to one of b. */
    private boolean openWay(boolean[][] drawing, boolean[] opens, int before, int here, int used, int b, int z) {
        if (in(b, here)) {
            return true;
        }
        for (int next = 0; next < n; next++) {
            if (in(used, next) || !drawing[here][next] && !drawing[next][here]) {
                continue;
            }
            boolean meeting = before != NONE && drawing[before][here] && drawing[next][here];
            boolean open = before == NONE || (meeting ? opens[here] : !in(z, here));
            if (open && openWay(drawing, opens, here, next, used | 1 << next, b, z)) {
                return true;
            }
        }
        return false;
    }

    private List<Integer> leastHeaps(int a, int b) {
        boolean[] does = new boolean[1 << n];
        for (int z = 0; z < 1 << n; z++) {
            boolean may = !in(z, a) && !in(z, b);
            for (int k = 0; k < n; k++) {
                may &= !in(z, k) || seen[k];
            }
            does[z] = may && barsIn(arrow, 1 << a, 1 << b, z);
        }
        List<Integer> found = new ArrayList<>();
        for (int z = 0; z < 1 << n; z++) {
            boolean isLeast = does[z];
            for (int part = 0; part < z; part++) {
                isLeast &= (part & ~z) != 0 || !does[part];
            }
            if (isLeast) {
                found.add(z);
            }
        }
        return found;
    }

    /** All ALIKE drawings, bit 8 * from + to for each ARROW: each has its THINGS in some order. */
    private Set<Long> allAlike() {
        Set<Long> found = new HashSet<>();
        inAnyOrder(new int[n], 0, 0, found, thirds(arrow));
        return found;
    }

    private void inAnyOrder(int[] order, int placed, int used, Set<Long> found, Set<Integer> thirds) {
        if (placed < n) {
            for (int k = 0; k < n; k++) {
                if (!in(used, k)) {
                    order[placed] = k;
                    inAnyOrder(order, placed + 1, used | 1 << k, found, thirds);
                }
            }
            return;
        }
        boolean[][] other = new boolean[8][8];
        long mask = 0;
        for (int i = 0; i < n; i++) {
            for (int j = i + 1; j < n; j++) {
                if (arrow[order[i]][order[j]] || arrow[order[j]][order[i]]) {
                    other[order[i]][order[j]] = true;
                    mask |= 1L << (8 * order[i] + order[j]);
                }
            }
        }
        if (!found.contains(mask) && thirds(other).equals(thirds)) {
            found.add(mask);
        }
    }

    private Set<Integer> thirds(boolean[][] drawing) {
        Set<Integer> found = new HashSet<>();
        for (int x = 0; x < n; x++) {
            for (int y = x + 1; y < n; y++) {
                for (int t = 0; t < n; t++) {
                    if (drawing[x][t] && drawing[y][t] && !drawing[x][y] && !drawing[y][x]) {
                        found.add(64 * x + 8 * y + t);
                    }
                }
            }
        }
        return found;
    }

    private static long greatest(long... all) {
        long best = all[0];
        for (long one : all) {
            best = Math.max(best, one);
        }
        return best;
    }
}
