/** Numbers of 256 bits, points of the curve secp256k1, and signatures over it. */
public final class PointBench {
    private static final int NUMBERS = 8;
    private static final int PARTS = 4;
    private static final int PART_BITS = 64;
    private static final long SIGN_BIT = 1L << (PART_BITS - 1);
    private static final int NUMBER_BITS = PARTS * PART_BITS;
    private static final int POINTS = 4;
    /* The kinds of work, which are the same for P and, behind them, for N. */
    private static final int KINDS = 4;
    private static final int ADDING = 0;
    private static final int SUBTRACTING = 1;
    private static final int MULTIPLYING = 2;
    private static final int INVERTING = 3;
    private static final int WORKS = 2 * KINDS;

    /*
     * Inside, a number is a row of ten limbs of 26 bits, limb 0 the lowest. So short a limb leaves
     * room in a long: sums and differences are not carried at all, limbs may be negative, and ten
     * products of limbs still add up without overflow.
     *
     * WEIGHT: a row has weight w if none of its limbs is beyond w * 2^26 up or down. What multiply
     * or unpack makes has weight 1, and a sum or difference the weights of both together. The
     * weights of the two rows that multiply takes, multiplied, must not be above 100: then no sum
     * of ten products is beyond 1000 * 2^52, which is below 2^62.
     */
    private static final int LIMBS = 10;
    private static final int LIMB_BITS = 26;
    private static final long LIMB_MASK = (1L << LIMB_BITS) - 1;
    private static final int TOP = LIMBS - 1;
    private static final int WIDE_TOP = 2 * LIMBS - 1;
    /** How many bits of the highest limb lie below 2^256. */
    private static final int TOP_BITS = NUMBER_BITS - TOP * LIMB_BITS;

    /* What stands in parts of 64 bits, the lowest first. */
    private static final long[] ZERO = {0L, 0L, 0L, 0L};
    private static final long[] P = {
        0xFFFFFFFEFFFFFC2FL, 0xFFFFFFFFFFFFFFFFL, 0xFFFFFFFFFFFFFFFFL, 0xFFFFFFFFFFFFFFFFL};
    private static final long[] P_LESS_TWO = {
        0xFFFFFFFEFFFFFC2DL, 0xFFFFFFFFFFFFFFFFL, 0xFFFFFFFFFFFFFFFFL, 0xFFFFFFFFFFFFFFFFL};
    /** (P + 1) / 4: as P is 3 modulo 4, a square to this power is one of its roots. */
    private static final long[] ROOT_POWER = {
        0xFFFFFFFFBFFFFF0CL, 0xFFFFFFFFFFFFFFFFL, 0xFFFFFFFFFFFFFFFFL, 0x3FFFFFFFFFFFFFFFL};
    private static final long[] N = {
        0xBFD25E8CD0364141L, 0xBAAEDCE6AF48A03BL, 0xFFFFFFFFFFFFFFFEL, 0xFFFFFFFFFFFFFFFFL};
    private static final long[] N_LESS_TWO = {
        0xBFD25E8CD036413FL, 0xBAAEDCE6AF48A03BL, 0xFFFFFFFFFFFFFFFEL, 0xFFFFFFFFFFFFFFFFL};
    private static final long[] G_X = {
        0x59F2815B16F81798L, 0x029BFCDB2DCE28D9L, 0x55A06295CE870B07L, 0x79BE667EF9DCBBACL};
    private static final long[] G_Y = {
        0x9C47D08FFB10D4B8L, 0xFD17B448A6855419L, 0x5DA4FBFC0E1108A8L, 0x483ADA7726A3C465L};

    /* What stands in limbs: REST is 2^256 less the modulus, WRAP is 2^260 modulo it. */
    private static final long[] P_REST = {0x3D1L, 0x40L};
    private static final long[] P_WRAP = {0x3D10L, 0x400L};
    private static final long[] N_REST = {
        0x3C9BEBFL, 0x3685CCBL, 0x1FC4402L, 0x6542DDL, 0x1455123L};
    private static final long[] N_WRAP = {
        0x9BEBF0L, 0x285CCBFL, 0x3C4402DL, 0x2542DD7L, 0x551231L, 0x5L};

    private final long[][] numbers = new long[NUMBERS][PARTS];
    private final Point[] points = new Point[POINTS];
    private final Modulus field = new Modulus(P, P_LESS_TWO, P_REST, P_WRAP, false);
    private final Modulus order = new Modulus(N, N_LESS_TWO, N_REST, N_WRAP, true);
    private final Point generator = new Point();
    private final RunningSum sum = new RunningSum(field);

    /* Rows that every call may use; nothing in them outlives a call. */
    private final Point found = new Point();
    private final long[] left = new long[LIMBS];
    private final long[] right = new long[LIMBS];
    private final long[] third = new long[LIMBS];
    private final long[] ofGenerator = new long[PARTS];
    private final long[] ofKey = new long[PARTS];

    public PointBench() {
        for (int p = 0; p < POINTS; p++) {
            points[p] = new Point();
        }
        Limbs.unpack(generator.x, G_X);
        Limbs.unpack(generator.y, G_Y);
        generator.isNone = false;
    }

    public void set(int r, int part, long value) throws IllegalArgumentException {
        needNumber(r);
        needPart(part);
        numbers[r][part] = value;
    }

    public long get(int r, int part) throws IllegalArgumentException {
        needNumber(r);
        needPart(part);
        return numbers[r][part];
    }

    public int compare(int r, int a) throws IllegalArgumentException {
        needNumber(r);
        needNumber(a);
        return Parts.order(numbers[r], numbers[a]);
    }

    public boolean work(int what, int r, int a, int b) throws IllegalArgumentException {
        needWork(what);
        needNumber(r);
        needNumber(a);
        needNumber(b);
        Modulus modulus = what < KINDS ? field : order;
        int kind = what % KINDS;
        if (!modulus.isAbove(numbers[a])) {
            return false;
        }
        if (kind == INVERTING ? Parts.areZero(numbers[a]) : !modulus.isAbove(numbers[b])) {
            return false;
        }
        Limbs.unpack(left, numbers[a]);
        Limbs.unpack(right, numbers[b]);
        workOnLeft(kind, modulus);
        modulus.settle(left);
        Limbs.pack(numbers[r], left);
        return true;
    }

    public void base(int p) throws IllegalArgumentException {
        needPoint(p);
        points[p].copyFrom(generator);
    }

    public void none(int p) throws IllegalArgumentException {
        needPoint(p);
        points[p].isNone = true;
    }

    public boolean lay(int p, int x, int y) throws IllegalArgumentException {
        needPoint(p);
        needNumber(x);
        needNumber(y);
        if (!field.isAbove(numbers[x]) || !field.isAbove(numbers[y])) {
            return false;
        }
        Limbs.unpack(found.x, numbers[x]);
        Limbs.unpack(found.y, numbers[y]);
        squareOfY(left, found.x);
        if (!isRoot(found.y, left)) {
            return false;
        }
        found.isNone = false;
        points[p].copyFrom(found);
        return true;
    }

    public boolean lift(int p, int x, boolean odd) throws IllegalArgumentException {
        needPoint(p);
        needNumber(x);
        if (!field.isAbove(numbers[x])) {
            return false;
        }
        Limbs.unpack(found.x, numbers[x]);
        squareOfY(left, found.x);
        field.power(found.y, left, ROOT_POWER);
        if (!isRoot(found.y, left)) {
            return false;
        }
        makeParity(found.y, odd);
        found.isNone = false;
        points[p].copyFrom(found);
        return true;
    }

    public boolean show(int p, int x, int y) throws IllegalArgumentException {
        needPoint(p);
        needNumber(x);
        needNumber(y);
        if (points[p].isNone) {
            return false;
        }
        Limbs.pack(numbers[x], points[p].x);
        Limbs.pack(numbers[y], points[p].y);
        return true;
    }

    public void add(int p, int a, int b) throws IllegalArgumentException {
        needPoint(p);
        needPoint(a);
        needPoint(b);
        sum.clear();
        sum.join(points[a]);
        sum.join(points[b]);
        sum.writeTo(points[p]);
    }

    public void times(int p, int r, int a) throws IllegalArgumentException {
        needPoint(p);
        needNumber(r);
        needPoint(a);
        sum.gather(numbers[r], points[a], ZERO, points[a]);
        sum.writeTo(points[p]);
    }

    public boolean same(int p, int a) throws IllegalArgumentException {
        needPoint(p);
        needPoint(a);
        return points[p].matches(points[a]);
    }

    public boolean sign(int r, int s, int secret, int once, int digest)
            throws IllegalArgumentException {
        needNumber(r);
        needNumber(s);
        needNumber(secret);
        needNumber(once);
        needNumber(digest);
        if (!isFromOneBelowN(numbers[secret]) || !isFromOneBelowN(numbers[once])) {
            return false;
        }
        sum.gather(numbers[once], generator, ZERO, generator);
        sum.writeTo(found);
        Limbs.copy(left, found.x);
        order.settle(left);
        Limbs.unpack(right, numbers[secret]);
        order.multiply(right, right, left);
        Limbs.unpack(third, numbers[digest]);
        Limbs.plus(right, right, third);
        Limbs.unpack(third, numbers[once]);
        order.invert(third, third);
        order.multiply(right, right, third);
        order.settle(right);
        Limbs.pack(numbers[r], left);
        Limbs.pack(numbers[s], right);
        return true;
    }

    public boolean verify(int p, int digest, int r, int s) throws IllegalArgumentException {
        needPoint(p);
        needNumber(digest);
        needNumber(r);
        needNumber(s);
        if (points[p].isNone || !isFromOneBelowN(numbers[r]) || !isFromOneBelowN(numbers[s])) {
            return false;
        }
        Limbs.unpack(third, numbers[s]);
        order.invert(third, third);
        productModuloN(ofGenerator, numbers[digest], third);
        productModuloN(ofKey, numbers[r], third);
        sum.gather(ofGenerator, generator, ofKey, points[p]);
        sum.writeTo(found);
        if (found.isNone) {
            return false;
        }
        Limbs.unpack(left, numbers[r]);
        return order.areCongruent(found.x, left);
    }

    private static void needNumber(int r) {
        if (r < 0 || r >= NUMBERS) {
            throw new IllegalArgumentException("no such NUMBER");
        }
    }

    private static void needPart(int part) {
        if (part < 0 || part >= PARTS) {
            throw new IllegalArgumentException("no such PART");
        }
    }

    private static void needPoint(int p) {
        if (p < 0 || p >= POINTS) {
            throw new IllegalArgumentException("no such POINT");
        }
    }

    private static void needWork(int what) {
        if (what < 0 || what >= WORKS) {
            throw new IllegalArgumentException("no such work");
        }
    }

    private void workOnLeft(int kind, Modulus modulus) {
        if (kind == ADDING) {
            Limbs.plus(left, left, right);
        } else if (kind == SUBTRACTING) {
            Limbs.minus(left, left, right);
        } else if (kind == MULTIPLYING) {
            modulus.multiply(left, left, right);
        } else {
            modulus.invert(left, left);
        }
    }

    private boolean isFromOneBelowN(long[] parts) {
        return order.isAbove(parts) && !Parts.areZero(parts);
    }

    /** The square that y must have on the curve: x x x + 7. */
    private void squareOfY(long[] square, long[] x) {
        field.multiply(square, x, x);
        field.multiply(square, square, x);
        square[0] += 7;
    }

    private boolean isRoot(long[] y, long[] square) {
        field.multiply(right, y, y);
        return field.areCongruent(right, square);
    }

    private void makeParity(long[] y, boolean odd) {
        field.settle(y);
        boolean isOdd = (y[0] & 1L) != 0;
        if (isOdd != odd) {
            // P is odd, so the other root, P - y, has the other parity.
            Limbs.unpack(right, ZERO);
            Limbs.minus(y, right, y);
            field.settle(y);
        }
    }

    private void productModuloN(long[] parts, long[] number, long[] factor) {
        Limbs.unpack(left, number);
        order.multiply(left, left, factor);
        order.settle(left);
        Limbs.pack(parts, left);
    }

    /** What is asked of a number in parts. */
    private static final class Parts {
        /** -1, 0, 1 as a is below, equal to, above b. */
        static int order(long[] a, long[] b) {
            for (int i = PARTS - 1; i >= 0; i--) {
                if (a[i] != b[i]) {
                    // Parts have no sign: to turn the highest bit makes Java's order theirs.
                    return (a[i] ^ SIGN_BIT) < (b[i] ^ SIGN_BIT) ? -1 : 1;
                }
            }
            return 0;
        }

        static boolean areZero(long[] parts) {
            return order(parts, ZERO) == 0;
        }

        static boolean haveBit(long[] parts, int bit) {
            return (parts[bit / PART_BITS] >>> (bit % PART_BITS) & 1L) != 0;
        }
    }

    /** What is done with rows of limbs whatever the modulus; the result may be a source, too. */
    private static final class Limbs {
        static void copy(long[] to, long[] from) {
            System.arraycopy(from, 0, to, 0, LIMBS);
        }

        static void plus(long[] to, long[] a, long[] b) {
            for (int i = 0; i < LIMBS; i++) {
                to[i] = a[i] + b[i];
            }
        }

        static void minus(long[] to, long[] a, long[] b) {
            for (int i = 0; i < LIMBS; i++) {
                to[i] = a[i] - b[i];
            }
        }

        static void scale(long[] to, long[] a, long factor) {
            for (int i = 0; i < LIMBS; i++) {
                to[i] = a[i] * factor;
            }
        }

        static boolean areEqual(long[] a, long[] b) {
            for (int i = 0; i < LIMBS; i++) {
                if (a[i] != b[i]) {
                    return false;
                }
            }
            return true;
        }

        static boolean areZero(long[] a) {
            for (int i = 0; i < LIMBS; i++) {
                if (a[i] != 0) {
                    return false;
                }
            }
            return true;
        }

        /** Limbs from .. to - 1 become short; limb to takes the rest, which may be negative. */
        static void carry(long[] row, int from, int to) {
            long carried = 0;
            for (int i = from; i < to; i++) {
                carried += row[i];
                row[i] = carried & LIMB_MASK;
                carried >>= LIMB_BITS;
            }
            row[to] += carried;
        }

        static void unpack(long[] limbs, long[] parts) {
            for (int i = 0; i < LIMBS; i++) {
                int part = i * LIMB_BITS / PART_BITS;
                int shift = i * LIMB_BITS % PART_BITS;
                long bits = parts[part] >>> shift;
                if (shift + LIMB_BITS > PART_BITS && part + 1 < PARTS) {
                    bits |= parts[part + 1] << (PART_BITS - shift);
                }
                limbs[i] = bits & LIMB_MASK;
            }
        }

        /** The limbs must be settled. */
        static void pack(long[] parts, long[] limbs) {
            for (int part = 0; part < PARTS; part++) {
                parts[part] = 0;
            }
            for (int i = 0; i < LIMBS; i++) {
                int part = i * LIMB_BITS / PART_BITS;
                int shift = i * LIMB_BITS % PART_BITS;
                parts[part] |= limbs[i] << shift;
                if (shift + LIMB_BITS > PART_BITS && part + 1 < PARTS) {
                    parts[part + 1] |= limbs[i] >>> (PART_BITS - shift);
                }
            }
        }

        /** wide = a b, each limb a bare sum of products that is still to be carried. */
        static void product(long[] wide, long[] a, long[] b) {
            // Written out, as this is where nearly all the time of times and verify goes.
            long a0 = a[0], a1 = a[1], a2 = a[2], a3 = a[3], a4 = a[4];
            long a5 = a[5], a6 = a[6], a7 = a[7], a8 = a[8], a9 = a[9];
            long b0 = b[0], b1 = b[1], b2 = b[2], b3 = b[3], b4 = b[4];
            long b5 = b[5], b6 = b[6], b7 = b[7], b8 = b[8], b9 = b[9];
            wide[0] = a0 * b0;
            wide[1] = a0 * b1 + a1 * b0;
            wide[2] = a0 * b2 + a1 * b1 + a2 * b0;
            wide[3] = a0 * b3 + a1 * b2 + a2 * b1 + a3 * b0;
            wide[4] = a0 * b4 + a1 * b3 + a2 * b2 + a3 * b1 + a4 * b0;
            wide[5] = a0 * b5 + a1 * b4 + a2 * b3 + a3 * b2 + a4 * b1 + a5 * b0;
            wide[6] = a0 * b6 + a1 * b5 + a2 * b4 + a3 * b3 + a4 * b2 + a5 * b1 + a6 * b0;
            wide[7] = a0 * b7 + a1 * b6 + a2 * b5 + a3 * b4 + a4 * b3 + a5 * b2 + a6 * b1
                    + a7 * b0;
            wide[8] = a0 * b8 + a1 * b7 + a2 * b6 + a3 * b5 + a4 * b4 + a5 * b3 + a6 * b2
                    + a7 * b1 + a8 * b0;
            wide[9] = a0 * b9 + a1 * b8 + a2 * b7 + a3 * b6 + a4 * b5 + a5 * b4 + a6 * b3
                    + a7 * b2 + a8 * b1 + a9 * b0;
            wide[10] = a1 * b9 + a2 * b8 + a3 * b7 + a4 * b6 + a5 * b5 + a6 * b4 + a7 * b3
                    + a8 * b2 + a9 * b1;
            wide[11] = a2 * b9 + a3 * b8 + a4 * b7 + a5 * b6 + a6 * b5 + a7 * b4 + a8 * b3
                    + a9 * b2;
            wide[12] = a3 * b9 + a4 * b8 + a5 * b7 + a6 * b6 + a7 * b5 + a8 * b4 + a9 * b3;
            wide[13] = a4 * b9 + a5 * b8 + a6 * b7 + a7 * b6 + a8 * b5 + a9 * b4;
            wide[14] = a5 * b9 + a6 * b8 + a7 * b7 + a8 * b6 + a9 * b5;
            wide[15] = a6 * b9 + a7 * b8 + a8 * b7 + a9 * b6;
            wide[16] = a7 * b9 + a8 * b8 + a9 * b7;
            wide[17] = a8 * b9 + a9 * b8;
            wide[18] = a9 * b9;
            wide[WIDE_TOP] = 0;
        }
    }

    /**
     * Arithmetic modulo P or N. A row is SETTLED if its number is from 0 to the modulus less 1 and
     * each of its limbs is from 0 to LIMB_MASK.
     */
    private static final class Modulus {
        private final long[] parts;
        private final long[] partsLessTwo;
        private final long[] rest;
        private final long[] wrap;
        private final boolean isWrapLong;
        private final long[] wide = new long[WIDE_TOP + 1];
        private final long[] trial = new long[LIMBS];
        private final long[] gap = new long[LIMBS];
        private final long[] factor = new long[LIMBS];

        Modulus(long[] parts, long[] partsLessTwo, long[] rest, long[] wrap,
                boolean isWrapLong) {
            this.parts = parts;
            this.partsLessTwo = partsLessTwo;
            this.rest = rest;
            this.wrap = wrap;
            this.isWrapLong = isWrapLong;
        }

        boolean isAbove(long[] number) {
            return Parts.order(number, parts) < 0;
        }

        /** The result has weight 1, and none of its limbs but the highest is negative. */
        void multiply(long[] to, long[] a, long[] b) {
            Limbs.product(wide, a, b);
            // A high limb must be short before it is multiplied; the low ones can wait.
            Limbs.carry(wide, LIMBS, WIDE_TOP);
            fold(LIMBS);
            if (isWrapLong) {
                // A long WRAP makes many high limbs again: these must be short, too.
                Limbs.carry(wide, 0, TOP + wrap.length);
                fold(wrap.length);
            }
            // By now one long holds all that is left from 2^260 on, even multiplied.
            Limbs.carry(wide, 0, LIMBS);
            fold(1);
            Limbs.carry(wide, 0, TOP);
            Limbs.copy(to, wide);
        }

        /** Puts as many limbs from 2^260 on as told where they belong modulo the modulus. */
        private void fold(int high) {
            for (int i = 0; i < high; i++) {
                long limb = wide[LIMBS + i];
                wide[LIMBS + i] = 0;
                for (int j = 0; j < wrap.length; j++) {
                    wide[i + j] += limb * wrap[j];
                }
            }
        }

        /** to = a to the power that the parts tell. */
        void power(long[] to, long[] a, long[] exponent) {
            Limbs.copy(factor, a);
            Limbs.unpack(to, ZERO);
            to[0] = 1;
            for (int bit = NUMBER_BITS - 1; bit >= 0; bit--) {
                multiply(to, to, to);
                if (Parts.haveBit(exponent, bit)) {
                    multiply(to, to, factor);
                }
            }
        }

        /** By Fermat: P and N are prime. */
        void invert(long[] to, long[] a) {
            power(to, a, partsLessTwo);
        }

        boolean areCongruent(long[] a, long[] b) {
            Limbs.minus(gap, a, b);
            settle(gap);
            return Limbs.areZero(gap);
        }

        boolean isMultiple(long[] a) {
            Limbs.copy(gap, a);
            settle(gap);
            return Limbs.areZero(gap);
        }

        /** Takes a row of any weight up to 100. */
        void settle(long[] row) {
            Limbs.carry(row, 0, TOP);
            // The first leaves what misses 0 .. 2^256 - 1 by little, if at all; the second hits.
            dropTop(row);
            dropTop(row);
            // A number not below the modulus is one that REST lifts to 2^256 or above.
            Limbs.copy(trial, row);
            for (int j = 0; j < rest.length; j++) {
                trial[j] += rest[j];
            }
            Limbs.carry(trial, 0, TOP);
            if (trial[TOP] >> TOP_BITS != 0) {
                trial[TOP] -= 1L << TOP_BITS;
                Limbs.copy(row, trial);
            }
        }

        /** Takes the modulus away as many times as the row has 2^256. */
        private void dropTop(long[] row) {
            long count = row[TOP] >> TOP_BITS;
            row[TOP] -= count << TOP_BITS;
            for (int j = 0; j < rest.length; j++) {
                row[j] += count * rest[j];
            }
            Limbs.carry(row, 0, TOP);
        }
    }

    /** NONE, or x and y in settled rows. */
    private static final class Point {
        final long[] x = new long[LIMBS];
        final long[] y = new long[LIMBS];
        boolean isNone = true;

        void copyFrom(Point other) {
            Limbs.copy(x, other.x);
            Limbs.copy(y, other.y);
            isNone = other.isNone;
        }

        boolean matches(Point other) {
            if (isNone || other.isNone) {
                return isNone && other.isNone;
            }
            return Limbs.areEqual(x, other.x) && Limbs.areEqual(y, other.y);
        }
    }

    /**
     * A sum of points under way, as x by z z and y by z z z, so that only its end needs an inverse.
     * Behind every step x and y have at most weight 9, and z has at most weight 2.
     */
    private static final class RunningSum {
        private final Modulus field;
        private boolean isNone = true;
        private final long[] x = new long[LIMBS];
        private final long[] y = new long[LIMBS];
        private final long[] z = new long[LIMBS];
        private final long[] across = new long[LIMBS];
        private final long[] rise = new long[LIMBS];
        private final long[] square = new long[LIMBS];
        private final long[] cube = new long[LIMBS];
        private final long[] middle = new long[LIMBS];

        RunningSum(Modulus field) {
            this.field = field;
        }

        void clear() {
            isNone = true;
        }

        /** Becomes n times a + m times b, in one go, as that spares half of the doublings. */
        void gather(long[] n, Point a, long[] m, Point b) {
            clear();
            for (int bit = NUMBER_BITS - 1; bit >= 0; bit--) {
                twice();
                if (Parts.haveBit(n, bit)) {
                    join(a);
                }
                if (Parts.haveBit(m, bit)) {
                    join(b);
                }
            }
        }

        void join(Point point) {
            if (point.isNone) {
                return;
            }
            if (isNone) {
                begin(point);
                return;
            }
            field.multiply(square, z, z);
            field.multiply(across, point.x, square);
            Limbs.minus(across, across, x);
            field.multiply(rise, square, z);
            field.multiply(rise, rise, point.y);
            Limbs.minus(rise, rise, y);
            if (!field.isMultiple(across)) {
                joinAcross();
            } else if (field.isMultiple(rise)) {
                twice();
            } else {
                isNone = true;
            }
        }

        private void begin(Point point) {
            Limbs.copy(x, point.x);
            Limbs.copy(y, point.y);
            Limbs.unpack(z, ZERO);
            z[0] = 1;
            isNone = false;
        }

        /** The slope is rise by (z across), of weights 10 and 10; x becomes weight 4, y 2, z 1. */
        private void joinAcross() {
            field.multiply(z, z, across);
            field.multiply(square, across, across);
            field.multiply(cube, square, across);
            field.multiply(middle, x, square);
            field.multiply(x, rise, rise);
            Limbs.minus(x, x, cube);
            Limbs.minus(x, x, middle);
            Limbs.minus(x, x, middle);
            field.multiply(cube, cube, y);
            Limbs.minus(middle, middle, x);
            field.multiply(y, middle, rise);
            Limbs.minus(y, y, cube);
        }

        /** The slope is 3 x x by (2 y z). As N is odd, no point has y 0, so z does not become 0. */
        private void twice() {
            if (isNone) {
                return;
            }
            field.multiply(z, z, y);
            Limbs.scale(z, z, 2);
            field.multiply(rise, x, x);
            Limbs.scale(rise, rise, 3);
            field.multiply(square, y, y);
            field.multiply(middle, x, square);
            Limbs.scale(middle, middle, 4);
            field.multiply(x, rise, rise);
            Limbs.minus(x, x, middle);
            Limbs.minus(x, x, middle);
            Limbs.minus(middle, middle, x);
            field.multiply(y, rise, middle);
            field.multiply(square, square, square);
            Limbs.scale(square, square, 8);
            Limbs.minus(y, y, square);
        }

        void writeTo(Point point) {
            point.isNone = isNone;
            if (isNone) {
                return;
            }
            field.invert(cube, z);
            field.multiply(square, cube, cube);
            field.multiply(cube, cube, square);
            field.multiply(point.x, x, square);
            field.multiply(point.y, y, cube);
            field.settle(point.x);
            field.settle(point.y);
        }
    }
}
