/** Promise 3: reckon. How its signs round is in Terms. */
public final class Promise03Reckon extends Checks {
    private static final int OPS = 15;
    private static final int NEGATE = 6;
    private static final int LESS = 13;
    private static final int GREATER = 14;

    /** What each op makes of 7.5 and -2. */
    private static final long[] OF_BOTH = {
        d(5.5), d(9.5), d(-15.0), d(-3.75), d(1.5), 0x4005e8add236a58fL, d(-7.5), d(7.5),
        d(5.5), d(9.5), d(-15.0), d(-3.75), d(1.5), d(-2.0), d(7.5),
    };

    public static void main(String[] args) {
        runAll(Promise03Reckon.class);
    }

    private static void eachOp() {
        for (int op = 0; op < OPS; op++) {
            reckoned(op, d(7.5), d(-2.0), OF_BOTH[op]);
        }
    }

    private static void eachStoreAsEachOfThree() {
        for (int k = 0; k < 8; k++) {
            for (int a = 0; a < 8; a++) {
                long[] stores = {d(1.0), d(2.0), d(4.0), d(8.0), d(16.0), d(32.0), d(64.0), d(128.0)};
                int b = (k + 3 * a) % 8;
                int into = k;
                int first = a;
                long want = d((1 << a) - (1 << b));
                String call = "reckon(1, " + k + ", " + a + ", " + b + ")";
                becomes(call, stores, k, want, bench -> bench.reckon(1, into, first, b));
            }
        }
    }

    private static void aStoreReckonedIntoItself() {
        for (int op = 0; op < OPS; op++) {
            NumberBench bench = bench(d(7.5), d(-2.0));
            due("reckon(" + op + ", 0, 0, 1)", bench.reckon(op, 0, 0, 1), OF_BOTH[op]);
            holds("into a", bench, new long[] {OF_BOTH[op], d(-2.0), 0, 0, 0, 0, 0, 0});
            bench = bench(d(7.5), d(-2.0));
            due("reckon(" + op + ", 1, 0, 1)", bench.reckon(op, 1, 0, 1), OF_BOTH[op]);
            holds("into b", bench, new long[] {d(7.5), OF_BOTH[op], 0, 0, 0, 0, 0, 0});
        }
        NumberBench bench = bench(d(7.5));
        due("reckon(0, 0, 0, 0)", bench.reckon(0, 0, 0, 0), d(15.0));
        due("reckon(3, 0, 0, 0)", bench.reckon(3, 0, 0, 0), d(1.0));
        due("reckon(1, 0, 0, 0)", bench.reckon(1, 0, 0, 0), 0);
        due("reckon(3, 0, 0, 0)", bench.reckon(3, 0, 0, 0), NO_NUMBER);
    }

    private static void theOtherSign() {
        reckoned(NEGATE, d(1.5), 0L, d(-1.5));
        reckoned(NEGATE, d(-1.5), 0L, d(1.5));
        reckoned(NEGATE, 0L, 0L, MINUS_ZERO);
        reckoned(NEGATE, MINUS_ZERO, 0L, 0L);
        reckoned(NEGATE, LEAST, 0L, MINUS_LEAST);
        reckoned(NEGATE, MINUS_GREATEST, 0L, GREATEST);
        reckoned(NEGATE, INFINITE, 0L, MINUS_INFINITE);
        reckoned(NEGATE, MINUS_INFINITE, 0L, INFINITE);
    }

    private static void theOtherSignOfNoNumberIsNotTold() {
        for (long bits : NO_NUMBERS) {
            reckoned(NEGATE, bits, 0L, NO_NUMBER);
        }
    }

    private static void lessAndGreater(long less, long greater) {
        reckoned(LESS, less, greater, less);
        reckoned(LESS, greater, less, less);
        reckoned(GREATER, less, greater, greater);
        reckoned(GREATER, greater, less, greater);
    }

    private static void theLessAndTheGreater() {
        lessAndGreater(d(1.0), d(2.0));
        lessAndGreater(d(-2.0), d(-1.0));
        lessAndGreater(d(-1.0), d(1.0));
        lessAndGreater(d(3.0), d(3.0));
        lessAndGreater(0x3ff0000000000000L, 0x3ff0000000000001L);
        lessAndGreater(0xbff0000000000001L, 0xbff0000000000000L);
    }

    private static void minus0IsLessThan0() {
        lessAndGreater(MINUS_ZERO, 0L);
        lessAndGreater(MINUS_ZERO, MINUS_ZERO);
        lessAndGreater(0L, 0L);
        lessAndGreater(MINUS_ZERO, LEAST);
        lessAndGreater(MINUS_LEAST, MINUS_ZERO);
        lessAndGreater(MINUS_LEAST, 0L);
    }

    private static void theLessAndTheGreaterOfInfinite() {
        lessAndGreater(GREATEST, INFINITE);
        lessAndGreater(MINUS_INFINITE, MINUS_GREATEST);
        lessAndGreater(MINUS_INFINITE, INFINITE);
        lessAndGreater(INFINITE, INFINITE);
    }

    private static void ifOneIsNoNumberThat() {
        for (long other : new long[] {d(1.0), d(-1.0), 0L, MINUS_ZERO, INFINITE, MINUS_INFINITE, -1L}) {
            for (long none : NO_NUMBERS) {
                reckoned(LESS, none, other, NO_NUMBER);
                reckoned(LESS, other, none, NO_NUMBER);
                reckoned(GREATER, none, other, NO_NUMBER);
                reckoned(GREATER, other, none, NO_NUMBER);
            }
        }
    }

    private static void anotherOpIsRefused() {
        for (int op : new int[] {-1, 15, 16, 256, 65536, -2147483648, 2147483647}) {
            refused("reckon(" + op + ", 2, 0, 1)", 1, bench -> bench.reckon(op, 2, 0, 1));
        }
    }

    private static void anotherStoreToBecomeIsRefused() {
        for (int op = 0; op < OPS; op++) {
            int which = op;
            for (int no : NO_STORES) {
                refused("reckon(" + op + ", " + no + ", 0, 1)", 1, bench -> bench.reckon(which, no, 0, 1));
            }
        }
    }

    private static void anotherFirstStoreIsRefused() {
        for (int op = 0; op < OPS; op++) {
            int which = op;
            for (int no : NO_STORES) {
                refused("reckon(" + op + ", 2, " + no + ", 1)", 1, bench -> bench.reckon(which, 2, no, 1));
            }
        }
    }

    private static void anotherSecondStoreIsRefusedByTheOpsOfBoth() {
        for (int op : new int[] {0, 1, 2, 3, 4, 8, 9, 10, 11, 12, 13, 14}) {
            for (int no : NO_STORES) {
                refused("reckon(" + op + ", 2, 0, " + no + ")", 1, bench -> bench.reckon(op, 2, 0, no));
            }
        }
    }

    private static void anotherSecondStoreIsRefusedByTheOpsOfOne() {
        for (int op : new int[] {5, 6, 7}) {
            for (int no : NO_STORES) {
                refused("reckon(" + op + ", 2, 0, " + no + ")", 1, bench -> bench.reckon(op, 2, 0, no));
            }
        }
    }

    private static void allWrongAtOnceIsRefused() {
        refused("reckon(15, 8, 8, 8)", 1, bench -> bench.reckon(15, 8, 8, 8));
        refused("reckon(-1, -1, -1, -1)", 1, bench -> bench.reckon(-1, -1, -1, -1));
    }
}
