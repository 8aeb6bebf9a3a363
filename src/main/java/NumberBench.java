/**
 * Eight places for doubles, reckoned with as IEEE 754 has it, down to the last bit.
 *
 * A number is held as its BITS in a long and reckoned with in whole numbers alone: the language that
 * this file keeps to lets no operation on doubles answer one that is no number, and gives no way from
 * a double to its bits.
 */
public final class NumberBench {
    public static final int REFUSED = -1;

    private static final int STORES = 8;
    private static final int NO_BITS = 1;
    private static final long NO_CAST = 1L << 62;

    private static final long GREATEST_INT = 0x7fffffffL;
    private static final long LEAST_INT = -GREATEST_INT - 1;
    private static final long GREATEST_LONG = 0x7fffffffffffffffL;
    private static final long LEAST_LONG = -GREATEST_LONG - 1;
    private static final long INT_MASK = 0xffffffffL;

    private static final int ADD = 0;
    private static final int SUBTRACT = 1;
    private static final int MULTIPLY = 2;
    private static final int DIVIDE = 3;
    private static final int REMAINDER = 4;
    private static final int ROOT = 5;
    private static final int NEGATE = 6;
    private static final int TO_FLOAT = 7;
    private static final int FLOAT_ADD = 8;
    private static final int FLOAT_REMAINDER = 12;
    private static final int LESS = 13;
    private static final int GREATER = 14;

    private static final int IS_LESS = 1;
    private static final int IS_LESS_OR_EQUAL = 2;
    private static final int IS_EQUAL = 4;
    private static final int IS_NOT_EQUAL = 8;
    private static final int IS_GREATER_OR_EQUAL = 16;
    private static final int IS_GREATER = 32;

    private static final long TWO = 0x4000000000000000L;
    private static final long ROOT_GUESS = 2303591209400008704L;
    private static final int ROOT_STEPS = 5;

    /** The BITS of each store; of those that are no number only the one pattern that is told. */
    private final long[] stores;

    public NumberBench() {
        stores = new long[STORES];
    }

    public int keep(int k, long bits) {
        if (!isStore(k)) {
            return REFUSED;
        }
        stores[k] = Form.DOUBLES.told(bits);
        return 0;
    }

    public long reckon(int op, int k, int a, int b) {
        if (op < ADD || op > GREATER || !isStore(k) || !isStore(a) || !isStore(b)) {
            return NO_BITS;
        }
        stores[k] = reckoned(op, stores[a], stores[b]);
        return stores[k];
    }

    public long whole(int k, int kind, long v) {
        if (!isStore(k) || kind < 0 || kind > 1) {
            return NO_BITS;
        }
        // Not by way of the nearest double: rounding twice can miss the nearest float.
        stores[k] = kind == 0 ? Form.DOUBLES.ofWhole(v) : widened(Form.FLOATS.ofWhole(v));
        return stores[k];
    }

    public long cast(int k, int kind) {
        if (!isStore(k)) {
            return NO_CAST;
        }
        long cut = Form.DOUBLES.cut(stores[k]);
        int cutToInt = (int) Math.max(LEAST_INT, Math.min(GREATEST_INT, cut));
        switch (kind) {
            case 0:
                return cutToInt;
            case 1:
                return cut;
            case 2:
                return (short) cutToInt;
            case 3:
                return (char) cutToInt;
            case 4:
                return (byte) cutToInt;
            default:
                return NO_CAST;
        }
    }

    public int compare(int a, int b) {
        if (!isStore(a) || !isStore(b)) {
            return REFUSED;
        }
        return relations(stores[a], stores[b]);
    }

    public long horner(int x) {
        if (!isStore(x)) {
            return NO_BITS;
        }
        long value = stores[STORES - 1];
        for (int i = STORES - 2; i >= 0; i--) {
            value = Form.DOUBLES.plus(Form.DOUBLES.times(value, stores[x]), stores[i]);
        }
        return value;
    }

    public int single(int k) {
        if (!isStore(k)) {
            return NO_BITS;
        }
        return (int) narrowed(stores[k]);
    }

    public long fromSingle(int k, int bits) {
        if (!isStore(k)) {
            return NO_BITS;
        }
        stores[k] = widened(bits & INT_MASK);
        return stores[k];
    }

    public long sum(int way) {
        switch (way) {
            case 0:
                return plainSum();
            case 1:
                return floatSum();
            case 2:
                return sumKeepingLosses();
            default:
                return NO_BITS;
        }
    }

    private static boolean isStore(int k) {
        return k >= 0 && k < STORES;
    }

    private static long reckoned(int op, long a, long b) {
        if (op <= REMAINDER) {
            return combined(Form.DOUBLES, op, a, b);
        }
        if (op >= FLOAT_ADD && op <= FLOAT_REMAINDER) {
            return widened(combined(Form.FLOATS, op - FLOAT_ADD, narrowed(a), narrowed(b)));
        }
        switch (op) {
            case ROOT:
                return root(a);
            case NEGATE:
                return Form.DOUBLES.negated(a);
            case TO_FLOAT:
                return widened(narrowed(a));
            case LESS:
                return less(a, b);
            default:
                return greater(a, b);
        }
    }

    private static long combined(Form form, int op, long a, long b) {
        switch (op) {
            case ADD:
                return form.plus(a, b);
            case SUBTRACT:
                return form.minus(a, b);
            case MULTIPLY:
                return form.times(a, b);
            case DIVIDE:
                return form.over(a, b);
            default:
                return form.remainder(a, b);
        }
    }

    private static long narrowed(long doubleBits) {
        return Form.FLOATS.nearestTo(Form.DOUBLES, doubleBits);
    }

    private static long widened(long floatBits) {
        return Form.DOUBLES.nearestTo(Form.FLOATS, floatBits);
    }

    private static long root(long d) {
        // Doubles above 0 are ordered as their BITS are; those that are no number come after infinity.
        if (d <= 0 || d >= Form.DOUBLES.infinity) {
            return d;
        }
        long s = (d >> 1) + ROOT_GUESS;
        for (int i = 0; i < ROOT_STEPS; i++) {
            s = Form.DOUBLES.over(Form.DOUBLES.plus(s, Form.DOUBLES.over(d, s)), TWO);
        }
        return s;
    }

    private static long less(long a, long b) {
        if (Form.DOUBLES.isNoNumber(a) || Form.DOUBLES.isNoNumber(b)) {
            return Form.DOUBLES.noNumber;
        }
        return rank(a) < rank(b) ? a : b;
    }

    private static long greater(long a, long b) {
        if (Form.DOUBLES.isNoNumber(a) || Form.DOUBLES.isNoNumber(b)) {
            return Form.DOUBLES.noNumber;
        }
        return rank(a) > rank(b) ? a : b;
    }

    /** A whole number that orders doubles as their values do, with -0 just below 0. */
    private static long rank(long bits) {
        return bits < 0 ? bits ^ GREATEST_LONG : bits;
    }

    private static int relations(long a, long b) {
        if (Form.DOUBLES.isNoNumber(a) || Form.DOUBLES.isNoNumber(b)) {
            return IS_NOT_EQUAL;
        }
        boolean bothZero = Form.DOUBLES.isZero(a) && Form.DOUBLES.isZero(b);
        if (a == b || bothZero) {
            return IS_LESS_OR_EQUAL | IS_EQUAL | IS_GREATER_OR_EQUAL;
        }
        return rank(a) < rank(b)
                ? IS_LESS | IS_LESS_OR_EQUAL | IS_NOT_EQUAL
                : IS_NOT_EQUAL | IS_GREATER_OR_EQUAL | IS_GREATER;
    }

    private long plainSum() {
        long total = 0;
        for (int i = 0; i < STORES; i++) {
            total = Form.DOUBLES.plus(total, stores[i]);
        }
        return total;
    }

    private long floatSum() {
        long total = 0;
        for (int i = 0; i < STORES; i++) {
            total = Form.FLOATS.plus(total, narrowed(stores[i]));
        }
        return widened(total);
    }

    private long sumKeepingLosses() {
        long total = 0;
        long lost = 0;
        for (int i = 0; i < STORES; i++) {
            long part = Form.DOUBLES.minus(stores[i], lost);
            long next = Form.DOUBLES.plus(total, part);
            lost = Form.DOUBLES.minus(Form.DOUBLES.minus(next, total), part);
            total = next;
        }
        return total;
    }

    /**
     * A binary form of IEEE 754, whose numbers are given and answered as their BITS (of floats the
     * lower half of a long, the upper half being 0).
     */
    private enum Form {
        FLOATS(23, 8),
        DOUBLES(52, 11);

        /** Significands are rounded from here: the highest bit that leaves a long above 0. */
        private static final int TOP = 62;
        /** Both forms divide and multiply from significands of this highest bit, the wider form's own. */
        private static final int LEAD = 52;
        /** Bits below a summand's last one: a carry still fits, and what is shifted out can't tip a rounding. */
        private static final int GUARD = 9;
        /** A rest below 2^53 can be moved up by so many bits before it is divided again. */
        private static final int STEP = 10;
        private static final int QUOTIENT_STEPS = 6;
        private static final int HALF = 27;
        private static final long HALF_MASK = (1L << HALF) - 1;

        private final int fractionBits;
        private final int bias;
        private final int topExponent;
        private final long signBit;
        private final long leastNormal;
        /** The infinite number without a sign; its 1s are also just those of the exponent. */
        private final long infinity;
        private final long noNumber;

        Form(int fractionBits, int exponentBits) {
            this.fractionBits = fractionBits;
            this.bias = (1 << (exponentBits - 1)) - 1;
            this.topExponent = (1 << exponentBits) - 1;
            this.signBit = 1L << (fractionBits + exponentBits);
            this.leastNormal = 1L << fractionBits;
            this.infinity = (long) topExponent << fractionBits;
            this.noNumber = infinity | (1L << (fractionBits - 1));
        }

        long told(long bits) {
            return isNoNumber(bits) ? noNumber : bits;
        }

        boolean isNoNumber(long bits) {
            return magnitude(bits) > infinity;
        }

        boolean isZero(long bits) {
            return magnitude(bits) == 0;
        }

        long negated(long bits) {
            return told(bits ^ signBit);
        }

        long plus(long a, long b) {
            if (isNoNumber(a) || isNoNumber(b)) {
                return noNumber;
            }
            if (isInfinite(a)) {
                return isInfinite(b) && a != b ? noNumber : a;
            }
            if (isInfinite(b)) {
                return b;
            }
            return magnitude(a) >= magnitude(b) ? finiteSum(a, b) : finiteSum(b, a);
        }

        long minus(long a, long b) {
            return plus(a, negated(b));
        }

        long times(long a, long b) {
            if (isNoNumber(a) || isNoNumber(b)) {
                return noNumber;
            }
            boolean negative = isNegative(a) != isNegative(b);
            if (isInfinite(a) || isInfinite(b)) {
                return isZero(a) || isZero(b) ? noNumber : signed(negative, infinity);
            }
            if (isZero(a) || isZero(b)) {
                return signed(negative, 0);
            }
            return finiteProduct(negative, a, b);
        }

        long over(long a, long b) {
            if (isNoNumber(a) || isNoNumber(b)) {
                return noNumber;
            }
            boolean negative = isNegative(a) != isNegative(b);
            if (isInfinite(a)) {
                return isInfinite(b) ? noNumber : signed(negative, infinity);
            }
            if (isZero(b)) {
                return isZero(a) ? noNumber : signed(negative, infinity);
            }
            if (isInfinite(b) || isZero(a)) {
                return signed(negative, 0);
            }
            return finiteQuotient(negative, a, b);
        }

        long remainder(long a, long b) {
            if (isNoNumber(a) || isNoNumber(b) || isInfinite(a) || isZero(b)) {
                return noNumber;
            }
            if (magnitude(a) < magnitude(b)) {
                return a;
            }
            return finiteRemainder(a, b);
        }

        long nearestTo(Form other, long bits) {
            if (other.isNoNumber(bits)) {
                return noNumber;
            }
            boolean negative = other.isNegative(bits);
            if (other.isInfinite(bits)) {
                return signed(negative, infinity);
            }
            return rounded(negative, other.significand(bits), other.scale(bits));
        }

        long ofWhole(long v) {
            if (v == LEAST_LONG) {
                // The one whole number whose magnitude is no long.
                return rounded(true, 1, TOP + 1);
            }
            return rounded(v < 0, Math.abs(v), 0);
        }

        long cut(long bits) {
            if (isNoNumber(bits)) {
                return 0;
            }
            int scale = scale(bits);
            if (scale > TOP - fractionBits) {
                return isNegative(bits) ? LEAST_LONG : GREATEST_LONG;
            }
            if (scale < -fractionBits) {
                return 0;
            }
            long significand = significand(bits);
            long cut = scale >= 0 ? significand << scale : significand >> -scale;
            return isNegative(bits) ? -cut : cut;
        }

        private long magnitude(long bits) {
            return bits & (signBit - 1);
        }

        private boolean isNegative(long bits) {
            return (bits & signBit) != 0;
        }

        private boolean isInfinite(long bits) {
            return magnitude(bits) == infinity;
        }

        private long signed(boolean negative, long magnitude) {
            return negative ? magnitude | signBit : magnitude;
        }

        /** The whole number that, times two to the power of scale(bits), is the magnitude. */
        private long significand(long bits) {
            long fraction = bits & (leastNormal - 1);
            return (bits & infinity) == 0 ? fraction : fraction | leastNormal;
        }

        private int scale(long bits) {
            int exponent = (int) ((bits & infinity) >> fractionBits);
            // Numbers below all that is normal share the scale of the least normal ones.
            return Math.max(exponent, 1) - bias - fractionBits;
        }

        /** The magnitude of a must not be below that of b. */
        private long finiteSum(long a, long b) {
            int scale = scale(a);
            long greater = significand(a) << GUARD;
            long lesser = shiftedOut(significand(b) << GUARD, scale - scale(b));
            if (isNegative(a) == isNegative(b)) {
                return rounded(isNegative(a), greater + lesser, scale - GUARD);
            }
            // Numbers that cancel out give the 0 without a sign.
            boolean negative = isNegative(a) && greater != lesser;
            return rounded(negative, greater - lesser, scale - GUARD);
        }

        private long finiteProduct(boolean negative, long a, long b) {
            long partA = significand(a);
            long partB = significand(b);
            int shiftA = shiftToLead(partA);
            int shiftB = shiftToLead(partB);
            long product = upperProduct(partA << shiftA, partB << shiftB);
            int scale = scale(a) - shiftA + scale(b) - shiftB + 2 * HALF - STEP;
            return rounded(negative, product, scale);
        }

        private long finiteQuotient(boolean negative, long a, long b) {
            long partA = significand(a);
            long partB = significand(b);
            int shiftA = shiftToLead(partA);
            int shiftB = shiftToLead(partB);
            long quotient = longQuotient(partA << shiftA, partB << shiftB);
            int scale = scale(a) - shiftA - (scale(b) - shiftB) - STEP * QUOTIENT_STEPS;
            return rounded(negative, quotient, scale);
        }

        private long finiteRemainder(long a, long b) {
            long divisor = significand(b);
            if (divisor == 0) {
                return noNumber;
            }
            long rest = significand(a) % divisor;
            for (int left = scale(a) - scale(b); left > 0; left -= STEP) {
                rest = (rest << Math.min(left, STEP)) % divisor;
            }
            return rounded(isNegative(a), rest, scale(b));
        }

        private static int shiftToLead(long significand) {
            return Long.numberOfLeadingZeros(significand) - (TOP + 1 - LEAD);
        }

        /** The product of two significands without its lowest 2 * HALF - STEP bits; its last bit tells of them. */
        private static long upperProduct(long a, long b) {
            long upperA = a >> HALF;
            long lowerA = a & HALF_MASK;
            long upperB = b >> HALF;
            long lowerB = b & HALF_MASK;
            long lowest = lowerA * lowerB;
            long middle = upperA * lowerB + lowerA * upperB + (lowest >> HALF);
            long upper = upperA * upperB + (middle >> HALF);
            long lower = (middle & HALF_MASK) << HALF | lowest & HALF_MASK;
            return upper << STEP | shiftedOut(lower, 2 * HALF - STEP);
        }

        /** The quotient times 2^(STEP * QUOTIENT_STEPS), cut; its last bit tells of what was cut. */
        private static long longQuotient(long a, long divisor) {
            if (divisor == 0) {
                return 0;
            }
            long quotient = a / divisor;
            long rest = a % divisor;
            for (int i = 0; i < QUOTIENT_STEPS; i++) {
                rest <<= STEP;
                quotient = quotient << STEP | rest / divisor;
                rest %= divisor;
            }
            return rest == 0 ? quotient : quotient | 1;
        }

        /** Shifted to the right; the last bit tells if any 1 was lost, so that a later rounding knows. */
        private static long shiftedOut(long significand, int shift) {
            if (shift > TOP) {
                return significand == 0 ? 0 : 1;
            }
            long kept = significand >> shift;
            return kept << shift == significand ? kept : kept | 1;
        }

        /** The number nearest to significand * 2^scale, of two the one whose last bit is 0. */
        private long rounded(boolean negative, long significand, int scale) {
            if (significand == 0) {
                return signed(negative, 0);
            }
            int shift = Long.numberOfLeadingZeros(significand) - 1;
            int exponent = scale - shift + TOP + bias;
            if (exponent >= topExponent) {
                return signed(negative, infinity);
            }
            int drop = TOP - fractionBits + Math.max(1 - exponent, 0);
            if (drop > TOP + 1) {
                return signed(negative, 0);
            }
            long kept = withoutLowest(significand << shift, drop);
            // The leading 1 counts as one of the exponent, and so a carry out of the fraction does, too.
            return signed(negative, ((long) Math.max(exponent - 1, 0) << fractionBits) + kept);
        }

        private static long withoutLowest(long significand, int drop) {
            long kept = significand >>> drop;
            long dropped = significand & ((1L << drop) - 1);
            long half = 1L << (drop - 1);
            boolean up = dropped > half || dropped == half && (kept & 1) == 1;
            return up ? kept + 1 : kept;
        }
    }
}
