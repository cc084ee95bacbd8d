/**
 * Things with causes, drawn as arrows, and books of chances: what is likely given something, what is
 * likely when something is done, and what of this the drawing alone tells.
 *
 * <p>A HEAP is a number whose bit k is THING k; a SETTING has a HEAP in its lowest eight bits and what
 * each THING of it is in the next eight.
 */
public final class MadeItSo {
    public static final int NONE = -1;

    private static final int MOST_THINGS = 8;
    private static final int CASES = 1 << MOST_THINGS;
    private static final int HEAP_BITS = CASES - 1;
    private static final int MOST_ROWS = 1 << (MOST_THINGS - 1);
    private static final int WHOLE = 100;
    private static final int HALF = 50;
    private static final int CANNOT_BE_TOLD = -2;

    private final Drawing drawing = new Drawing();
    private final Drawing thinned = new Drawing();
    private final Books books = new Books();
    private final Weights weights = new Weights();
    private final Total total = new Total();
    private final LeastHeaps leastHeaps = new LeastHeaps();
    private final Lookalikes lookalikes = new Lookalikes();
    private int seenHeap = 0;
    private long aboveLine = 0;
    private long belowLine = 1;

    public MadeItSo() {
    }

    public int thing(boolean seen) {
        int number = drawing.grow();
        if (number == NONE) {
            return NONE;
        }
        books.blank(number);
        if (seen) {
            seenHeap |= bit(number);
        }
        return number;
    }

    public boolean arrow(int from, int to) {
        if (!drawing.has(from) || !drawing.has(to) || !drawing.canJoin(from, to)) {
            return false;
        }
        drawing.join(from, to);
        books.blank(to);
        return true;
    }

    public boolean cut(int from, int to) {
        if (!drawing.leads(from, to)) {
            return false;
        }
        drawing.part(from, to);
        books.blank(to);
        return true;
    }

    public boolean turn(int from, int to) {
        if (!drawing.leads(from, to)) {
            return false;
        }
        drawing.part(from, to);
        if (!drawing.canJoin(to, from)) {
            drawing.join(from, to);
            return false;
        }
        drawing.join(to, from);
        books.blank(from);
        books.blank(to);
        return true;
    }

    public boolean book(int thing, int row, int parts) {
        if (!hasRow(thing, row) || parts < 0 || parts > WHOLE) {
            return false;
        }
        books.write(thing, row, parts);
        return true;
    }

    public int booked(int thing, int row) {
        return hasRow(thing, row) ? books.read(thing, row) : NONE;
    }

    public int told(int thing, int what) {
        if (!drawing.has(thing)) {
            return NONE;
        }
        switch (what) {
            case 0:
                return inHeap(seenHeap, thing) ? 1 : 0;
            case 1:
                return drawing.parentsOf(thing);
            case 2:
                return drawing.childrenOf(thing);
            case 3:
                return drawing.allBelow(thing);
            default:
                return NONE;
        }
    }

    public long weight(int setting, int deed) {
        if (!isSetting(setting) || !isSetting(deed)) {
            return NONE;
        }
        weights.weigh(drawing, books, deed);
        return weights.having(heapOf(setting), onesOf(setting));
    }

    public int chance(int setting, int given, int deed) {
        aboveLine = 0;
        belowLine = 1;
        if (!isSetting(setting) || !isSetting(given) || !isSetting(deed)) {
            return NONE;
        }
        weights.weigh(drawing, books, deed);
        long known = weights.having(heapOf(given), onesOf(given));
        if (known <= 0) {
            return 0;
        }
        long both = 0;
        if (!clash(setting, given)) {
            both = weights.having(heapOf(setting | given), onesOf(setting | given));
        }
        long shared = commonDivisor(known, both);
        aboveLine = both / shared;
        belowLine = known / shared;
        return 1;
    }

    public long above() {
        return aboveLine;
    }

    public long below() {
        return belowLine;
    }

    public boolean bars(int a, int b, int z) {
        if (!isHeap(a) || !isHeap(b) || !isHeap(z)) {
            return false;
        }
        if ((a & b) != 0 || (a & z) != 0 || (b & z) != 0) {
            return false;
        }
        return drawing.barred(a, b, z);
    }

    public int least(int a, int b) {
        if (!areTwo(a, b)) {
            return NONE;
        }
        leastHeaps.seek(drawing, a, b, seenHeap);
        return leastHeaps.size();
    }

    public int leastAt(int a, int b, int i) {
        if (!areTwo(a, b)) {
            return NONE;
        }
        leastHeaps.seek(drawing, a, b, seenHeap);
        return leastHeaps.at(i);
    }

    public boolean fit(int a, int b, int z) {
        if (!areTwo(a, b) || !isHeap(z) || inHeap(z, a) || inHeap(z, b)) {
            return false;
        }
        if ((z & ~seenHeap) != 0) {
            return false;
        }
        if (!inHeap(drawing.allBelow(a), b)) {
            return drawing.barred(bit(a), bit(b), z);
        }
        int road = drawing.road(a, b);
        if ((z & drawing.withAllBelow(road)) != 0) {
            return false;
        }
        thinned.copyWithout(drawing, a, road);
        return thinned.barred(bit(a), bit(b), z);
    }

    public int agrees(int a, int b, int z, int u, int v) {
        if (!drawing.has(a) || !drawing.has(b) || !isHeap(z) || inHeap(z, a) || inHeap(z, b)) {
            return NONE;
        }
        if (!isBit(u) || !isBit(v)) {
            return NONE;
        }
        weights.weigh(drawing, books, settingOf(a, u));
        long done = weights.having(bit(b), onesOf(settingOf(b, v)));
        weights.weigh(drawing, books, 0);
        if (!sumOver(z, settingOf(a, u), settingOf(b, v))) {
            return CANNOT_BE_TOLD;
        }
        return total.is(done) ? 1 : 0;
    }

    public int alike() {
        return lookalikes.reckon(drawing, NONE, NONE);
    }

    public boolean fixed(int from, int to) {
        if (!drawing.leads(from, to)) {
            return false;
        }
        return lookalikes.reckon(drawing, to, from) == 0;
    }

    public long otherwise(int a, int b, int what) {
        if (!areTwo(a, b) || what < 0 || what > 4) {
            return NONE;
        }
        weights.weigh(drawing, books, settingOf(a, 1));
        long doneOne = weights.having(bit(b), bit(b));
        weights.weigh(drawing, books, settingOf(a, 0));
        long doneZero = weights.having(bit(b), bit(b));
        weights.weigh(drawing, books, 0);
        switch (what) {
            case 0:
                return leastOfBoth(b, doneOne, doneZero);
            case 1:
                return mostOfBoth(a, b, doneOne, doneZero);
            case 2:
                return Math.max(0L, weights.having(bit(b), bit(b)) - doneZero);
            case 3:
                return mostOfNeed(a, b, doneZero);
            default:
                return weights.having(bit(a) | bit(b), bit(a) | bit(b));
        }
    }

    public int draw(int seed, int deed) {
        if (!isSetting(deed)) {
            return NONE;
        }
        int state = seed;
        int came = 0;
        int ones = 0;
        for (int step = 0; step < drawing.size(); step++) {
            int next = drawing.nextAfter(came);
            if (next == NONE) {
                break;
            }
            state = state * 1103515245 + 12345;
            if ((state >>> 16) % WHOLE < books.partsUnder(drawing, next, ones, deed)) {
                ones |= bit(next);
            }
            came |= bit(next);
        }
        return ones;
    }

    public int count(int what) {
        switch (what) {
            case 0:
                return drawing.size();
            case 1:
                return drawing.arrows();
            case 2:
                return seenHeap;
            default:
                return NONE;
        }
    }

    private boolean hasRow(int thing, int row) {
        return drawing.has(thing) && row >= 0 && row < partsOf(drawing.parentsOf(thing));
    }

    private boolean areTwo(int a, int b) {
        return drawing.has(a) && drawing.has(b) && a != b;
    }

    private boolean isHeap(int heap) {
        return (heap & ~drawing.everything()) == 0;
    }

    private boolean isSetting(int setting) {
        return setting >>> (2 * MOST_THINGS) == 0
            && isHeap(heapOf(setting))
            && (onesOf(setting) & ~heapOf(setting)) == 0;
    }

    /** Reckons the SUM over z into the total; false if it can't be told. */
    private boolean sumOver(int z, int setA, int setB) {
        total.clear();
        int many = partsOf(z);
        for (int i = 0, ones = 0; i < many; i++, ones = nextPart(ones, z)) {
            long ofZ = weights.having(z, ones);
            if (ofZ > 0) {
                long withA = weights.having(z | heapOf(setA), ones | onesOf(setA));
                if (withA <= 0) {
                    return false;
                }
                // a and b may be one THING here; no CASE has it both 0 and 1
                if (!clash(setA, setB)) {
                    int heap = z | heapOf(setA | setB);
                    total.add(ofZ, weights.having(heap, ones | onesOf(setA | setB)), withA);
                }
            }
        }
        return true;
    }

    private long leastOfBoth(int b, long doneOne, long doneZero) {
        long seenOne = weights.having(bit(b), bit(b));
        long byDeeds = Math.max(0L, doneOne - doneZero);
        return Math.max(byDeeds, Math.max(seenOne - doneZero, doneOne - seenOne));
    }

    private long mostOfBoth(int a, int b, long doneOne, long doneZero) {
        int pair = bit(a) | bit(b);
        long same = weights.having(pair, pair) + weights.having(pair, 0);
        long unlike = weights.having(pair, bit(a)) + weights.having(pair, bit(b));
        long byDeeds = Math.min(doneOne, weights.having(0, 0) - doneZero);
        return Math.min(byDeeds, Math.min(same, doneOne - doneZero + unlike));
    }

    private long mostOfNeed(int a, int b, long doneZero) {
        int pair = bit(a) | bit(b);
        long rest = weights.having(0, 0) - doneZero - weights.having(pair, 0);
        return Math.min(weights.having(pair, pair), rest);
    }

    private static int bit(int thing) {
        return 1 << thing;
    }

    private static boolean inHeap(int heap, int thing) {
        return ((heap >> thing) & 1) == 1;
    }

    private static boolean isBit(int value) {
        return value == 0 || value == 1;
    }

    private static int heapOf(int setting) {
        return setting & HEAP_BITS;
    }

    private static int onesOf(int setting) {
        return (setting >> MOST_THINGS) & HEAP_BITS;
    }

    private static int settingOf(int thing, int value) {
        return bit(thing) | (value << (thing + MOST_THINGS));
    }

    private static boolean clash(int setting, int other) {
        return (heapOf(setting) & heapOf(other) & (onesOf(setting) ^ onesOf(other))) != 0;
    }

    /** How many parts a HEAP has, the empty one and itself counted. */
    private static int partsOf(int heap) {
        return 1 << Integer.bitCount(heap);
    }

    /** The next greater part of a HEAP; behind the HEAP itself comes 0 again. */
    private static int nextPart(int part, int heap) {
        return (part - heap) & heap;
    }

    /** At least 1, so that it may divide. */
    private static long commonDivisor(long x, long y) {
        long large = x;
        long small = y;
        // Euclid's way takes fewer than 93 steps for any two longs
        for (int step = 0; step < 100 && small != 0; step++) {
            long rest = large % small;
            large = small;
            small = rest;
        }
        return Math.max(1L, large);
    }

    /** THINGS and ARROWS, and all that can be read off them alone. */
    private static final class Drawing {
        private final int[] parents = new int[MOST_THINGS];
        private final int[] children = new int[MOST_THINGS];
        private int things = 0;

        int size() {
            return things;
        }

        boolean has(int thing) {
            return thing >= 0 && thing < things;
        }

        int everything() {
            return (1 << things) - 1;
        }

        /** The number of one THING more; NONE if there is no room for it. */
        int grow() {
            if (things >= MOST_THINGS) {
                return NONE;
            }
            things++;
            return things - 1;
        }

        int parentsOf(int thing) {
            return has(thing) ? parents[thing] : 0;
        }

        int childrenOf(int thing) {
            return has(thing) ? children[thing] : 0;
        }

        int joinedTo(int thing) {
            return has(thing) ? parents[thing] | children[thing] : 0;
        }

        boolean leads(int from, int to) {
            return has(from) && has(to) && inHeap(children[from], to);
        }

        boolean canJoin(int from, int to) {
            return from != to && !inHeap(joinedTo(from), to) && !inHeap(allBelow(to), from);
        }

        void join(int from, int to) {
            if (has(from) && has(to)) {
                children[from] |= bit(to);
                parents[to] |= bit(from);
            }
        }

        void part(int from, int to) {
            if (has(from) && has(to)) {
                children[from] &= ~bit(to);
                parents[to] &= ~bit(from);
            }
        }

        int arrows() {
            int sum = 0;
            for (int k = 0; k < things; k++) {
                sum += Integer.bitCount(parents[k]);
            }
            return sum;
        }

        int allBelow(int thing) {
            return withAllBelow(childrenOf(thing));
        }

        int withAllBelow(int heap) {
            return spread(heap, children);
        }

        /** The THINGS ON THE ROAD from a to b, where b is BELOW a. */
        int road(int a, int b) {
            return allBelow(a) & spread(bit(b), parents);
        }

        /** The least THING that has not come and whose PARENTS all came. */
        int nextAfter(int came) {
            for (int k = 0; k < things; k++) {
                if (!inHeap(came, k) && (parents[k] & ~came) == 0) {
                    return k;
                }
            }
            return NONE;
        }

        /** Becomes another drawing, without its ARROWS from one THING to those of a HEAP. */
        void copyWithout(Drawing other, int from, int heap) {
            things = other.things;
            for (int k = 0; k < MOST_THINGS; k++) {
                parents[k] = inHeap(heap, k) ? other.parents[k] & ~bit(from) : other.parents[k];
                children[k] = k == from ? other.children[k] & ~heap : other.children[k];
            }
        }

        /**
         * Whether z BARS the HEAPS a and b. It follows every row of joined THINGS at once, those that
         * come to a THING twice too: if one of these is open, so is a WAY with each THING once.
         */
        boolean barred(int a, int b, int z) {
            int openMeetings = spread(z, parents);
            int fromChild = a;
            int fromParent = 0;
            // each round but the last finds a THING in a manner that is new
            for (int round = 0; round < 2 * MOST_THINGS; round++) {
                int upward = (fromChild & ~z) | (fromParent & openMeetings);
                int downward = (fromChild | fromParent) & ~z;
                int nowFromChild = fromChild | gather(upward, parents);
                int nowFromParent = fromParent | gather(downward, children);
                if (nowFromChild == fromChild && nowFromParent == fromParent) {
                    break;
                }
                fromChild = nowFromChild;
                fromParent = nowFromParent;
            }
            return ((fromChild | fromParent) & b) == 0;
        }

        /** Whether no two THINGS of a HEAP are joined. */
        boolean apart(int heap) {
            for (int k = 0; k < things; k++) {
                if (inHeap(heap, k) && (joinedTo(k) & heap) != 0) {
                    return false;
                }
            }
            return true;
        }

        /** Whether a THING with other PARENTS is the third one for the same two as it is now. */
        boolean sameThirds(int thing, int otherParents) {
            int ownParents = parentsOf(thing);
            for (int k = 0; k < things; k++) {
                if (inHeap(ownParents | otherParents, k)
                    && unjoinedWith(k, otherParents) != unjoinedWith(k, ownParents)) {
                    return false;
                }
            }
            return true;
        }

        private int unjoinedWith(int thing, int heap) {
            return inHeap(heap, thing) ? heap & ~joinedTo(thing) & ~bit(thing) : 0;
        }

        private int spread(int heap, int[] rows) {
            int reached = heap;
            for (int step = 0; step < MOST_THINGS; step++) {
                int more = reached | gather(reached, rows);
                if (more == reached) {
                    break;
                }
                reached = more;
            }
            return reached;
        }

        private static int gather(int heap, int[] rows) {
            int all = 0;
            for (int k = 0; k < rows.length; k++) {
                if (inHeap(heap, k)) {
                    all |= rows[k];
                }
            }
            return all;
        }
    }

    /** What the BOOK of each THING says in each ROW. */
    private static final class Books {
        private final int[] parts = new int[MOST_THINGS * MOST_ROWS];

        void blank(int thing) {
            if (thing >= 0 && thing < MOST_THINGS) {
                for (int row = 0; row < MOST_ROWS; row++) {
                    parts[thing * MOST_ROWS + row] = HALF;
                }
            }
        }

        void write(int thing, int row, int said) {
            if (isPlace(thing, row)) {
                parts[thing * MOST_ROWS + row] = said;
            }
        }

        int read(int thing, int row) {
            return isPlace(thing, row) ? parts[thing * MOST_ROWS + row] : NONE;
        }

        /** How many of 100 times a THING is 1 where the THINGS ahead of it are so, under a DEED. */
        int partsUnder(Drawing drawing, int thing, int ones, int deed) {
            if (inHeap(heapOf(deed), thing)) {
                return inHeap(onesOf(deed), thing) ? WHOLE : 0;
            }
            return read(thing, rowOf(drawing.parentsOf(thing), ones));
        }

        private static boolean isPlace(int thing, int row) {
            return thing >= 0 && thing < MOST_THINGS && row >= 0 && row < MOST_ROWS;
        }

        private static int rowOf(int parents, int ones) {
            int row = 0;
            int place = 0;
            for (int k = 0; k < MOST_THINGS; k++) {
                if (inHeap(parents, k)) {
                    row |= ((ones >> k) & 1) << place;
                    place++;
                }
            }
            return row;
        }
    }

    /** The WEIGHT of each CASE (a HEAP of what is 1), as latest reckoned. */
    private static final class Weights {
        private final long[] ofCase = new long[CASES];
        private int everything = 0;

        /** A CASE is built THING by THING, so that what is ahead in it is weighed once only. */
        void weigh(Drawing drawing, Books books, int deed) {
            everything = drawing.everything();
            ofCase[0] = 1;
            int came = 0;
            for (int step = 0; step < drawing.size(); step++) {
                int next = drawing.nextAfter(came);
                if (next == NONE) {
                    break;
                }
                int many = partsOf(came);
                for (int i = 0, ones = 0; i < many; i++, ones = nextPart(ones, came)) {
                    split(ones, bit(next), books.partsUnder(drawing, next, ones, deed));
                }
                came |= bit(next);
            }
        }

        /** The WEIGHT of all CASES in which just these of a HEAP are 1. */
        long having(int heap, int ones) {
            int free = everything & ~heap;
            int many = partsOf(free);
            long sum = 0;
            for (int i = 0, rest = 0; i < many; i++, rest = nextPart(rest, free)) {
                sum += ofCase[(ones | rest) & HEAP_BITS];
            }
            return sum;
        }

        private void split(int ones, int newBit, int parts) {
            int being0 = ones & HEAP_BITS;
            int being1 = (ones | newBit) & HEAP_BITS;
            ofCase[being1] = ofCase[being0] * parts;
            ofCase[being0] *= WHOLE - parts;
        }
    }

    /** The LEAST HEAPS of two THINGS, as latest sought. */
    private static final class LeastHeaps {
        private final int[] found = new int[1 << (MOST_THINGS - 2)];
        private int many = 0;

        void seek(Drawing drawing, int a, int b, int seen) {
            int among = seen & ~bit(a) & ~bit(b);
            int candidates = partsOf(among);
            many = 0;
            // a part has a lesser number than its whole, so that it was looked at before
            for (int i = 0, z = 0; i < candidates; i++, z = nextPart(z, among)) {
                if (!holdsOne(z) && many < found.length && drawing.barred(bit(a), bit(b), z)) {
                    found[many] = z;
                    many++;
                }
            }
        }

        int size() {
            return many;
        }

        int at(int i) {
            return i >= 0 && i < many && i < found.length ? found[i] : NONE;
        }

        private boolean holdsOne(int z) {
            for (int i = 0; i < many && i < found.length; i++) {
                if ((found[i] & ~z) == 0) {
                    return true;
                }
            }
            return false;
        }
    }

    /** Counts the drawings that are ALIKE one. */
    private static final class Lookalikes {
        private final int[] waysOf = new int[CASES];

        /**
         * How many drawings are ALIKE this one in which an ARROW leads from one THING to another (in
         * which it does not matter, if these are NONE). A HEAP is drawn from its last THINGS on: those
         * from which no ARROW leads to one of the HEAP.
         */
        int reckon(Drawing drawing, int from, int to) {
            int everything = drawing.everything() & HEAP_BITS;
            waysOf[0] = 1;
            for (int heap = 1; heap <= everything; heap++) {
                int last = canBeLast(drawing, heap);
                if (to != NONE && !inHeap(heap, from)) {
                    last &= ~bit(to);
                }
                waysOf[heap] = waysEndingIn(drawing, heap, last);
            }
            return waysOf[everything];
        }

        /** A drawing with several last THINGS is met with each part of them, so by signs it counts once. */
        private int waysEndingIn(Drawing drawing, int heap, int last) {
            int sum = 0;
            int many = partsOf(last);
            for (int i = 1, part = nextPart(0, last); i < many; i++, part = nextPart(part, last)) {
                if (drawing.apart(part)) {
                    int rest = waysOf[heap & ~part & HEAP_BITS];
                    sum += (Integer.bitCount(part) & 1) == 1 ? rest : -rest;
                }
            }
            return sum;
        }

        private static int canBeLast(Drawing drawing, int heap) {
            int last = 0;
            for (int k = 0; k < drawing.size(); k++) {
                if (inHeap(heap, k) && drawing.sameThirds(k, drawing.joinedTo(k) & heap)) {
                    last |= bit(k);
                }
            }
            return last;
        }
    }

    /** A sum of fractions, exactly: their bottoms have up to 64 times 54 bits together. */
    private static final class Total {
        private final Big top = new Big();
        private final Big bottom = new Big();
        private final Big spare = new Big();

        void clear() {
            top.becomeDigit(0);
            bottom.becomeDigit(1);
        }

        /** Adds x times y by a divisor that is above 0. */
        void add(long x, long y, long divisor) {
            long sharedX = commonDivisor(divisor, x);
            long sharedY = commonDivisor(divisor / sharedX, y);
            long lowest = divisor / sharedX / sharedY;
            spare.become(bottom);
            spare.times(x / sharedX);
            spare.times(y / sharedY);
            top.times(lowest);
            bottom.times(lowest);
            top.plus(spare);
        }

        boolean is(long number) {
            spare.become(bottom);
            spare.times(number);
            return spare.same(top);
        }
    }

    /** A number of many bits, not below 0. */
    private static final class Big {
        private static final int LIMB_BITS = 30;
        private static final long LIMB = (1L << LIMB_BITS) - 1;
        // 3840 bits: a Total's bottom has at most 3456, and its top at most 54 more
        private static final int MOST_LIMBS = 128;

        // limbs from used on are 0
        private final long[] limbs = new long[MOST_LIMBS];
        private int used = 0;

        void becomeDigit(int digit) {
            for (int i = 1; i < used; i++) {
                limbs[i] = 0;
            }
            limbs[0] = digit;
            used = 1;
            trim();
        }

        void become(Big other) {
            int end = Math.max(used, other.used);
            for (int i = 0; i < end; i++) {
                limbs[i] = other.limbs[i];
            }
            used = other.used;
        }

        /** Times a factor of less than 60 bits. */
        void times(long factor) {
            long low = factor & LIMB;
            long high = factor >>> LIMB_BITS;
            long carry = 0;
            long before = 0;
            used = Math.min(used + 2, MOST_LIMBS);
            for (int i = 0; i < used; i++) {
                long here = limbs[i];
                long sum = carry + here * low + before * high;
                limbs[i] = sum & LIMB;
                carry = sum >>> LIMB_BITS;
                before = here;
            }
            trim();
        }

        void plus(Big other) {
            long carry = 0;
            used = Math.min(Math.max(used, other.used) + 1, MOST_LIMBS);
            for (int i = 0; i < used; i++) {
                long sum = carry + limbs[i] + other.limbs[i];
                limbs[i] = sum & LIMB;
                carry = sum >>> LIMB_BITS;
            }
            trim();
        }

        boolean same(Big other) {
            if (used != other.used) {
                return false;
            }
            for (int i = 0; i < used; i++) {
                if (limbs[i] != other.limbs[i]) {
                    return false;
                }
            }
            return true;
        }

        private void trim() {
            for (int i = used - 1; i >= 0 && limbs[i] == 0; i--) {
                used = i;
            }
        }
    }
}
