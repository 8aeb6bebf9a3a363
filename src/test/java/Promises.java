/** Each promise of the document by calls whose answers are written out: ordinary, at the edges, wrong. */
public final class Promises {
    private static final long NAN = 0x7ff8000000000000L;
    private static final long INF = 0x7ff0000000000000L;
    private static final long MINUS_INF = 0xfff0000000000000L;
    private static final long MINUS_ZERO = 0x8000000000000000L;
    private static final long LEAST = 1L;
    private static final long LEAST_NORMAL = 0x0010000000000000L;
    private static final long GREATEST = 0x7fefffffffffffffL;
    private static final long NO_CAST = 0x4000000000000000L;
    private static final int[] NO_STORES = {-1, 8, 9, 16, Integer.MIN_VALUE, Integer.MAX_VALUE};

    private static int wrong = 0;

    public static void main(String[] args) {
        newObject();
        keep();
        keepOfNoNumbers();
        reckonDoubles();
        reckonEdges();
        reckonRemainders();
        reckonRoots();
        reckonSigns();
        reckonFloats();
        reckonLessAndGreater();
        reckonKeepsItsAnswer();
        reckonRefuses();
        whole();
        cast();
        compare();
        horner();
        single();
        fromSingle();
        sum();
        objectsAreApart();
        System.out.println(wrong == 0 ? "all answers are as due" : wrong + " answers are not as due");
        if (wrong != 0) {
            System.exit(1);
        }
    }

    private static void due(String call, long got, long want) {
        if (got != want) {
            wrong++;
            System.out.println(call + " answered " + Long.toHexString(got) + ", due is " + Long.toHexString(want));
        }
    }

    private static long d(double value) {
        return Double.doubleToLongBits(value);
    }

    private static NumberBench bench(long... bits) {
        NumberBench bench = new NumberBench();
        for (int k = 0; k < bits.length; k++) {
            due("keep of " + Long.toHexString(bits[k]), bench.keep(k, bits[k]), 0);
        }
        return bench;
    }

    /** The BITS of a store, by an operation that changes none: the less of a number and itself. */
    private static long store(NumberBench bench, int k) {
        return bench.reckon(13, k, k, k);
    }

    private static void reckonDue(int op, long a, long b, long want) {
        String call = "reckon " + op + " of " + Long.toHexString(a) + ", " + Long.toHexString(b);
        NumberBench bench = bench(a, b);
        due(call, bench.reckon(op, 2, 0, 1), want);
        due(call + ", kept", store(bench, 2), want);
    }

    private static void newObject() {
        NumberBench bench = new NumberBench();
        for (int k = 0; k < 8; k++) {
            due("store " + k + " at first", store(bench, k), 0);
        }
        due("REFUSED", NumberBench.REFUSED, -1);
    }

    private static void keep() {
        NumberBench bench = new NumberBench();
        for (int k = 0; k < 8; k++) {
            due("keep " + k, bench.keep(k, d(k + 0.5)), 0);
        }
        for (int k : NO_STORES) {
            due("keep " + k, bench.keep(k, d(99)), -1);
        }
        for (int k = 0; k < 8; k++) {
            due("store " + k + " kept", store(bench, k), d(k + 0.5));
        }
        long[] edges = {0, MINUS_ZERO, LEAST, LEAST | MINUS_ZERO, LEAST_NORMAL, GREATEST, INF, MINUS_INF};
        for (long bits : edges) {
            due("an edge kept", store(bench(bits), 0), bits);
        }
    }

    private static void keepOfNoNumbers() {
        long[] patterns = {NAN, 0x7ff0000000000001L, 0x7fffffffffffffffL, 0xfff0000000000001L, -1L, 0xfff8000000000000L};
        for (long bits : patterns) {
            due("no number kept", store(bench(bits), 0), NAN);
            due("no number, sign turned", bench(bits).reckon(6, 1, 0, 0), NAN);
            due("no number, horner", bench(bits).horner(1), NAN);
            due("no number, sum", bench(bits).sum(0), NAN);
        }
    }

    private static void reckonDoubles() {
        reckonDue(0, d(0.1), d(0.2), d(0.30000000000000004));
        reckonDue(1, d(0.3), d(0.1), d(0.19999999999999998));
        reckonDue(2, d(0.1), d(0.1), d(0.010000000000000002));
        reckonDue(3, d(1), d(3), 0x3fd5555555555555L);
        reckonDue(3, d(2), d(3), 0x3fe5555555555555L);
        reckonDue(0, d(0x1p53), d(1), d(0x1p53));
        reckonDue(0, d(0x1p53 + 2), d(1), d(0x1p53 + 4));
        reckonDue(1, d(1), d(0x1p-54), d(1));
        reckonDue(1, d(1), d(0x1.8p-54), 0x3fefffffffffffffL);
        reckonDue(0, d(1), d(0x1p-53), d(1));
        reckonDue(0, d(1), 0x3ca0000000000001L, 0x3ff0000000000001L);
        reckonDue(0, d(1), LEAST, d(1));
        reckonDue(1, d(5), d(5), 0);
        reckonDue(1, d(-5), d(-5), 0);
    }

    private static void reckonEdges() {
        reckonDue(0, GREATEST, GREATEST, INF);
        reckonDue(0, GREATEST, d(0x1p970), INF);
        reckonDue(0, GREATEST, 0x7c8fffffffffffffL, GREATEST);
        reckonDue(1, INF, INF, NAN);
        reckonDue(0, INF, MINUS_INF, NAN);
        reckonDue(0, INF, INF, INF);
        reckonDue(0, d(1), MINUS_INF, MINUS_INF);
        reckonDue(0, NAN, INF, NAN);
        reckonDue(0, d(1), NAN, NAN);
        reckonDue(0, MINUS_ZERO, MINUS_ZERO, MINUS_ZERO);
        reckonDue(0, MINUS_ZERO, 0, 0);
        reckonDue(1, MINUS_ZERO, 0, MINUS_ZERO);
        reckonDue(1, 0, 0, 0);
        reckonDue(0, 0x000fffffffffffffL, LEAST, LEAST_NORMAL);
        reckonDue(1, LEAST_NORMAL, LEAST, 0x000fffffffffffffL);
        reckonDue(2, INF, 0, NAN);
        reckonDue(2, MINUS_ZERO, INF, NAN);
        reckonDue(2, INF, d(-2), MINUS_INF);
        reckonDue(2, d(-3), 0, MINUS_ZERO);
        reckonDue(2, NAN, 0, NAN);
        reckonDue(2, GREATEST, d(2), INF);
        reckonDue(2, LEAST, d(0.5), 0);
        reckonDue(2, LEAST, d(-0.5), MINUS_ZERO);
        reckonDue(2, LEAST, d(0.75), LEAST);
        reckonDue(2, 3, d(0.5), 2);
        reckonDue(2, LEAST, LEAST, 0);
        reckonDue(2, LEAST, LEAST | MINUS_ZERO, MINUS_ZERO);
        reckonDue(2, LEAST_NORMAL, d(0.5), 0x0008000000000000L);
        reckonDue(2, 0x0008000000000000L, d(2), LEAST_NORMAL);
        reckonDue(3, 0, 0, NAN);
        reckonDue(3, INF, INF, NAN);
        reckonDue(3, d(1), 0, INF);
        reckonDue(3, d(1), MINUS_ZERO, MINUS_INF);
        reckonDue(3, INF, 0, INF);
        reckonDue(3, INF, d(-2), MINUS_INF);
        reckonDue(3, d(-1), INF, MINUS_ZERO);
        reckonDue(3, MINUS_ZERO, d(4), MINUS_ZERO);
        reckonDue(3, d(4), NAN, NAN);
        reckonDue(3, LEAST, d(2), 0);
        reckonDue(3, 3, d(2), 2);
        reckonDue(3, LEAST, LEAST, d(1));
        reckonDue(3, GREATEST, LEAST, INF);
        reckonDue(3, d(1), LEAST, INF);
    }

    private static void reckonRemainders() {
        reckonDue(4, d(5.5), d(2), d(1.5));
        reckonDue(4, d(-5.5), d(2), d(-1.5));
        reckonDue(4, d(5.5), d(-2), d(1.5));
        reckonDue(4, d(6), d(2), 0);
        reckonDue(4, d(-6), d(2), MINUS_ZERO);
        reckonDue(4, d(3), d(-3), 0);
        reckonDue(4, d(1), d(0.1), d(0.09999999999999995));
        reckonDue(4, d(1.5), d(2), d(1.5));
        reckonDue(4, MINUS_ZERO, d(2), MINUS_ZERO);
        reckonDue(4, d(2), INF, d(2));
        reckonDue(4, d(-2), MINUS_INF, d(-2));
        reckonDue(4, INF, d(2), NAN);
        reckonDue(4, INF, INF, NAN);
        reckonDue(4, d(2), 0, NAN);
        reckonDue(4, 0, 0, NAN);
        reckonDue(4, NAN, d(2), NAN);
        reckonDue(4, d(2), NAN, NAN);
        reckonDue(4, GREATEST, LEAST, 0);
        reckonDue(4, GREATEST, 3, 2);
        reckonDue(4, d(0x1p1023), 7, 1);
        reckonDue(4, d(0x1p1022), 7, 4);
        reckonDue(4, 10, 7, 3);
    }

    private static void reckonRoots() {
        reckonDue(5, d(4), d(0), d(2));
        reckonDue(5, d(2), d(0), 0x3ff6a09e667f3bccL);
        reckonDue(5, LEAST, 0, 2281073211263157135L);
        reckonDue(5, 0, d(9), 0);
        reckonDue(5, MINUS_ZERO, d(9), MINUS_ZERO);
        reckonDue(5, d(-4), d(9), d(-4));
        reckonDue(5, MINUS_INF, d(9), MINUS_INF);
        reckonDue(5, INF, d(9), INF);
        reckonDue(5, NAN, d(9), NAN);
    }

    private static void reckonSigns() {
        reckonDue(6, d(1.5), NAN, d(-1.5));
        reckonDue(6, d(-1.5), 0, d(1.5));
        reckonDue(6, 0, 0, MINUS_ZERO);
        reckonDue(6, MINUS_ZERO, 0, 0);
        reckonDue(6, INF, 0, MINUS_INF);
        reckonDue(6, LEAST, 0, LEAST | MINUS_ZERO);
        reckonDue(6, NAN, 0, NAN);
    }

    private static void reckonFloats() {
        reckonDue(7, d(0.1), 0, d(0.1f));
        reckonDue(7, d(1 + 0x1p-24), 0, d(1));
        reckonDue(7, d(1 + 0x3p-24), 0, d(1 + 0x1p-22));
        reckonDue(7, d(0x1.ffffffp127), 0, INF);
        reckonDue(7, d(-0x1.ffffffp127), 0, MINUS_INF);
        reckonDue(7, d(0x1.ffffffp127) - 1, 0, d(Float.MAX_VALUE));
        reckonDue(7, GREATEST, 0, INF);
        reckonDue(7, d(0x1p-150), 0, 0);
        reckonDue(7, d(-0x1p-150), 0, MINUS_ZERO);
        reckonDue(7, d(0x1p-150) + 1, 0, d(0x1p-149));
        reckonDue(7, d(0x1.8p-149), 0, d(0x1p-148));
        reckonDue(7, LEAST, 0, 0);
        reckonDue(7, NAN, 0, NAN);
        reckonDue(7, MINUS_INF, 0, MINUS_INF);
        reckonDue(7, MINUS_ZERO, 0, MINUS_ZERO);
        reckonDue(8, d(0.1), d(0.2), d(0.1f + 0.2f));
        reckonDue(8, d(0x1p24), d(1), d(0x1p24));
        reckonDue(8, d(0x1p24 + 1), d(1), d(0x1p24));
        reckonDue(8, d(0x1p24 + 2), d(1), d(0x1p24 + 4));
        reckonDue(8, d(Float.MAX_VALUE), d(0x1p103), INF);
        reckonDue(9, d(0.3), d(0.1), d(0.3f - 0.1f));
        reckonDue(9, INF, d(1e300), NAN);
        reckonDue(10, d(0.1), d(0.1), d(0.1f * 0.1f));
        reckonDue(10, d(1e30), d(1e30), INF);
        reckonDue(10, d(0x1p-149), d(-0.5), MINUS_ZERO);
        reckonDue(10, d(0x3p-149), d(0.5), d(0x1p-148));
        reckonDue(11, d(1), d(3), d(1f / 3f));
        reckonDue(11, d(1), d(1e-300), INF);
        reckonDue(11, d(1e-300), d(1e-300), NAN);
        reckonDue(12, d(1), d(0.1), d(1f % 0.1f));
        reckonDue(12, d(-7), d(2), d(-1));
        reckonDue(12, d(Float.MAX_VALUE), d(0x7p-149), d(Float.MAX_VALUE % 0x7p-149f));
        reckonDue(12, d(2), d(1e300), d(2));
        reckonDue(12, d(2), d(1e-300), NAN);
    }

    private static void reckonLessAndGreater() {
        long[][] rows = {
            {d(1), d(2)}, {d(-2), d(-1)}, {d(-1), d(1)}, {MINUS_ZERO, 0}, {MINUS_INF, d(-1e308)},
            {GREATEST, INF}, {0, LEAST}, {LEAST | MINUS_ZERO, MINUS_ZERO}, {d(3), d(3)},
        };
        for (long[] row : rows) {
            reckonDue(13, row[0], row[1], row[0]);
            reckonDue(13, row[1], row[0], row[0]);
            reckonDue(14, row[0], row[1], row[1]);
            reckonDue(14, row[1], row[0], row[1]);
        }
        for (long bits : new long[] {NAN, INF, MINUS_INF, d(1), 0}) {
            reckonDue(13, NAN, bits, NAN);
            reckonDue(13, bits, NAN, NAN);
            reckonDue(14, NAN, bits, NAN);
            reckonDue(14, bits, NAN, NAN);
        }
    }

    private static void reckonKeepsItsAnswer() {
        NumberBench bench = bench(d(3), d(4));
        due("3 + 4 in place of 3", bench.reckon(0, 0, 0, 1), d(7));
        due("7 - 4 in place of 4", bench.reckon(1, 1, 0, 1), d(3));
        due("7 * 7 in place of 7", bench.reckon(2, 0, 0, 0), d(49));
        due("store 1", store(bench, 1), d(3));
        due("store 2", store(bench, 2), 0);
    }

    private static void reckonRefuses() {
        NumberBench bench = bench(d(3), d(4), d(5));
        for (int op : new int[] {-1, 15, 16, Integer.MIN_VALUE, Integer.MAX_VALUE}) {
            due("reckon of op " + op, bench.reckon(op, 2, 0, 1), 1);
        }
        for (int op = 0; op < 15; op++) {
            for (int no : NO_STORES) {
                due("reckon " + op + " into " + no, bench.reckon(op, no, 0, 1), 1);
                due("reckon " + op + " with a " + no, bench.reckon(op, 2, no, 1), 1);
                due("reckon " + op + " with b " + no, bench.reckon(op, 2, 0, no), 1);
            }
        }
        due("store 0 after refusals", store(bench, 0), d(3));
        due("store 1 after refusals", store(bench, 1), d(4));
        due("store 2 after refusals", store(bench, 2), d(5));
    }

    private static void wholeDue(int kind, long v, long want) {
        NumberBench bench = new NumberBench();
        due("whole of kind " + kind + " of " + v, bench.whole(5, kind, v), want);
        due("whole, kept", store(bench, 5), want);
    }

    private static void whole() {
        for (int kind = 0; kind < 2; kind++) {
            wholeDue(kind, 0, 0);
            wholeDue(kind, 1, d(1));
            wholeDue(kind, -12, d(-12));
            wholeDue(kind, Long.MAX_VALUE, d(0x1p63));
            wholeDue(kind, Long.MIN_VALUE, d(-0x1p63));
            wholeDue(kind, Long.MIN_VALUE + 1, d(-0x1p63));
        }
        wholeDue(0, (1L << 53) + 1, d(0x1p53));
        wholeDue(0, (1L << 53) + 3, d(0x1p53 + 4));
        wholeDue(0, -(1L << 53) - 3, d(-0x1p53 - 4));
        wholeDue(0, (1L << 24) + 1, d(0x1p24 + 1));
        wholeDue(1, (1L << 24) + 1, d(0x1p24));
        wholeDue(1, (1L << 24) + 3, d(0x1p24 + 4));
        wholeDue(1, -(1L << 24) - 3, d(-0x1p24 - 4));
        // The nearest double lies just between two floats: rounding twice would take the wrong one.
        wholeDue(1, (1L << 62) + (1L << 38) + 1, d(0x1p62 + 0x1p39));
        NumberBench bench = bench(d(3));
        for (int kind : new int[] {-1, 2, Integer.MIN_VALUE, Integer.MAX_VALUE}) {
            due("whole of kind " + kind, bench.whole(0, kind, 7), 1);
        }
        for (int no : NO_STORES) {
            due("whole into " + no, bench.whole(no, 0, 7), 1);
            due("whole into " + no, bench.whole(no, 1, 7), 1);
        }
        due("store 0 after refusals", store(bench, 0), d(3));
    }

    private static void castDue(long bits, long toInt, long toLong, long toShort, long toChar, long toByte) {
        NumberBench bench = bench(bits);
        long[] want = {toInt, toLong, toShort, toChar, toByte};
        for (int kind = 0; kind < 5; kind++) {
            due("cast of " + Long.toHexString(bits) + " to kind " + kind, bench.cast(0, kind), want[kind]);
        }
        due("the store after its casts", store(bench, 0), bits);
    }

    private static void cast() {
        int most = Integer.MAX_VALUE;
        int least = Integer.MIN_VALUE;
        castDue(d(0), 0, 0, 0, 0, 0);
        castDue(MINUS_ZERO, 0, 0, 0, 0, 0);
        castDue(NAN, 0, 0, 0, 0, 0);
        castDue(LEAST, 0, 0, 0, 0, 0);
        castDue(d(0.9999999999999999), 0, 0, 0, 0, 0);
        castDue(d(-0.9999999999999999), 0, 0, 0, 0, 0);
        castDue(d(1), 1, 1, 1, 1, 1);
        castDue(d(-1.9), -1, -1, -1, 65535, -1);
        castDue(d(200.7), 200, 200, 200, 200, -56);
        castDue(d(40000.5), 40000, 40000, -25536, 40000, 64);
        castDue(d(70000), 70000, 70000, 4464, 4464, 112);
        castDue(d(2147483646.5), most - 1, most - 1, -2, 65534, -2);
        castDue(d(2147483647.5), most, most, -1, 65535, -1);
        castDue(d(2147483648.0), most, 2147483648L, -1, 65535, -1);
        castDue(d(-2147483648.5), least, -2147483648L, 0, 0, 0);
        castDue(d(-2147483649.0), least, -2147483649L, 0, 0, 0);
        castDue(d(2251799813685249.5), most, 2251799813685249L, -1, 65535, -1);
        castDue(d(9007199254740993.0), most, 9007199254740992L, -1, 65535, -1);
        castDue(0x43dfffffffffffffL, most, Long.MAX_VALUE - 1023, -1, 65535, -1);
        castDue(d(0x1p63), most, Long.MAX_VALUE, -1, 65535, -1);
        castDue(0xc3dfffffffffffffL, least, Long.MIN_VALUE + 1024, 0, 0, 0);
        castDue(d(-0x1p63), least, Long.MIN_VALUE, 0, 0, 0);
        castDue(GREATEST, most, Long.MAX_VALUE, -1, 65535, -1);
        castDue(INF, most, Long.MAX_VALUE, -1, 65535, -1);
        castDue(MINUS_INF, least, Long.MIN_VALUE, 0, 0, 0);
        NumberBench bench = bench(d(3));
        for (int kind : new int[] {-1, 5, 6, Integer.MIN_VALUE, Integer.MAX_VALUE}) {
            due("cast to kind " + kind, bench.cast(0, kind), NO_CAST);
        }
        for (int no : NO_STORES) {
            due("cast of store " + no, bench.cast(no, 0), NO_CAST);
        }
    }

    private static void compareDue(long a, long b, int want, int wantTurned) {
        String call = "compare of " + Long.toHexString(a) + ", " + Long.toHexString(b);
        NumberBench bench = bench(0, a, 0, b);
        due(call, bench.compare(1, 3), want);
        due(call + ", turned", bench.compare(3, 1), wantTurned);
    }

    private static void compare() {
        int less = 1 + 2 + 8;
        int equal = 2 + 4 + 16;
        int greater = 8 + 16 + 32;
        compareDue(d(1), d(2), less, greater);
        compareDue(d(-2), d(-1), less, greater);
        compareDue(d(-1), d(1), less, greater);
        compareDue(d(-1), LEAST, less, greater);
        compareDue(0, LEAST, less, greater);
        compareDue(MINUS_ZERO, LEAST, less, greater);
        compareDue(LEAST | MINUS_ZERO, 0, less, greater);
        compareDue(GREATEST, INF, less, greater);
        compareDue(MINUS_INF, INF, less, greater);
        compareDue(d(1.5), d(1.5), equal, equal);
        compareDue(MINUS_ZERO, 0, equal, equal);
        compareDue(INF, INF, equal, equal);
        compareDue(MINUS_INF, MINUS_INF, equal, equal);
        compareDue(NAN, NAN, 8, 8);
        compareDue(NAN, d(1), 8, 8);
        compareDue(NAN, INF, 8, 8);
        compareDue(MINUS_INF, -1L, 8, 8);
        NumberBench bench = bench(NAN);
        due("no number with itself", bench.compare(0, 0), 8);
        for (int no : NO_STORES) {
            due("compare with " + no, bench.compare(1, no), -1);
            due("compare of " + no, bench.compare(no, 1), -1);
        }
    }

    private static void horner() {
        NumberBench bench = bench(d(1), d(2), d(3), d(4), d(5), d(6), d(7), d(8));
        due("horner at 1", bench.horner(0), d(36));
        due("horner at 2", bench.horner(1), d(1793));
        due("horner at 3", bench.horner(2), d(24604));
        due("horner at 8", bench.horner(7), d(1 + 2 * 8 + 3 * 64 + 4 * 512 + 5 * 4096 + 6 * 32768 + 7 * 262144 + 8 * 2097152));
        due("store 7 after horner", store(bench, 7), d(8));
        for (int no : NO_STORES) {
            due("horner at " + no, bench.horner(no), 1);
        }
        // Each sign rounds for itself: (1 + 2^-30)^2 - 1 loses 2^-60 before the 1 is taken away.
        NumberBench fine = bench(d(-1), 0, 0, 0, 0, 0, d(1 + 0x1p-30), 0);
        due("horner at a store that is 0", fine.horner(7), d(-1));
        NumberBench two = bench(d(-1), d(1 + 0x1p-30), 0, 0, 0, 0, 0, 0);
        due("horner rounds twice", two.horner(1), d(0x1p-29));
        due("horner of infinity and 0", bench(d(1), 0, 0, 0, 0, 0, 0, INF).horner(1), NAN);
        due("horner of -0", bench(MINUS_ZERO, MINUS_ZERO, 0, 0, 0, 0, 0, 0).horner(1), 0);
    }

    private static void singleDue(long bits, int want) {
        NumberBench bench = bench(bits);
        due("single of " + Long.toHexString(bits), bench.single(0), want);
        due("the store after single", store(bench, 0), bits);
    }

    private static void single() {
        singleDue(0, 0);
        singleDue(MINUS_ZERO, 0x80000000);
        singleDue(d(1), 0x3f800000);
        singleDue(d(-1), 0xbf800000);
        singleDue(d(0.1), 0x3dcccccd);
        singleDue(d(1 + 0x1p-24), 0x3f800000);
        singleDue(d(1 + 0x3p-24), 0x3f800002);
        singleDue(INF, 0x7f800000);
        singleDue(MINUS_INF, 0xff800000);
        singleDue(NAN, 0x7fc00000);
        singleDue(GREATEST, 0x7f800000);
        singleDue(d(-1e300), 0xff800000);
        singleDue(d(0x1p-149), 1);
        singleDue(d(0x1p-150), 0);
        singleDue(d(-0x1.8p-150), 0x80000001);
        singleDue(d(0x1.ffffffp-127), 0x00800000);
        singleDue(LEAST, 0);
        due("single of a told no number", bench(-1L).single(0), 0x7fc00000);
        for (int no : NO_STORES) {
            due("single of store " + no, new NumberBench().single(no), 1);
        }
    }

    private static void fromSingleDue(int bits, long want) {
        NumberBench bench = new NumberBench();
        due("fromSingle of " + Integer.toHexString(bits), bench.fromSingle(6, bits), want);
        due("fromSingle, kept", store(bench, 6), want);
    }

    private static void fromSingle() {
        fromSingleDue(0, 0);
        fromSingleDue(0x80000000, MINUS_ZERO);
        fromSingleDue(0x3f800000, d(1));
        fromSingleDue(0xc0200000, d(-2.5));
        fromSingleDue(1, d(0x1p-149));
        fromSingleDue(0x80000001, d(-0x1p-149));
        fromSingleDue(0x007fffff, d(0x1p-126 - 0x1p-149));
        fromSingleDue(0x00800000, d(0x1p-126));
        fromSingleDue(0x7f7fffff, d(0x1.fffffep127));
        fromSingleDue(0x7f800000, INF);
        fromSingleDue(0xff800000, MINUS_INF);
        fromSingleDue(0x7fc00000, NAN);
        fromSingleDue(0x7f800001, NAN);
        fromSingleDue(0xff800001, NAN);
        fromSingleDue(-1, NAN);
        NumberBench bench = bench(d(3));
        for (int no : NO_STORES) {
            due("fromSingle into " + no, bench.fromSingle(no, 0x3f800000), 1);
        }
        due("store 0 after refusals", store(bench, 0), d(3));
    }

    private static void sumDue(NumberBench bench, long plain, long inFloats, long keepingLosses) {
        due("sum, plain", bench.sum(0), plain);
        due("sum in floats", bench.sum(1), inFloats);
        due("sum with losses kept", bench.sum(2), keepingLosses);
    }

    private static void sum() {
        sumDue(new NumberBench(), 0, 0, 0);
        sumDue(bench(d(1), d(2), d(3), d(4), d(5), d(6), d(7), d(8)), d(36), d(36), d(36));
        sumDue(bench(d(1), d(0x1p-53), d(0x1p-53), d(0x1p-53), d(0x1p-53)), d(1), d(1), d(1 + 0x1p-51));
        sumDue(bench(d(0x1p-53), d(0x1p-53), d(1)), d(1 + 0x1p-52), d(1), d(1 + 0x1p-52));
        sumDue(bench(d(0x1p24), d(1), d(1)), d(0x1p24 + 2), d(0x1p24), d(0x1p24 + 2));
        sumDue(bench(d(0x1p24 + 1), d(2)), d(0x1p24 + 3), d(0x1p24 + 2), d(0x1p24 + 3));
        sumDue(bench(d(1e300)), d(1e300), INF, d(1e300));
        sumDue(bench(INF, 0), INF, INF, NAN);
        sumDue(bench(0, 0, 0, 0, 0, 0, 0, INF), INF, INF, INF);
        sumDue(bench(INF, MINUS_INF), NAN, NAN, NAN);
        sumDue(bench(0, 0, 0, 0, 0, 0, 0, NAN), NAN, NAN, NAN);
        long z = MINUS_ZERO;
        sumDue(bench(z, z, z, z, z, z, z, z), 0, 0, 0);
        for (int way : new int[] {-1, 3, 4, Integer.MIN_VALUE, Integer.MAX_VALUE}) {
            due("sum of way " + way, bench(d(3)).sum(way), 1);
        }
        NumberBench bench = bench(d(3), d(4));
        sumDue(bench, d(7), d(7), d(7));
        due("store 0 after its sums", store(bench, 0), d(3));
        due("store 1 after its sums", store(bench, 1), d(4));
    }

    private static void objectsAreApart() {
        NumberBench one = bench(d(1));
        NumberBench other = bench(d(2));
        due("store of one object", store(one, 0), d(1));
        due("store of the other", store(other, 0), d(2));
    }
}
