/** Promise 6: compare. */
public final class Promise06Compare extends Checks {
    private static final int LESS = 1 + 2 + 8;
    private static final int EQUAL = 2 + 4 + 16;
    private static final int GREATER = 8 + 16 + 32;
    private static final int NEITHER = 8;

    public static void main(String[] args) {
        runAll(Promise06Compare.class);
    }

    private static void compared(long a, long b, int want, int wantTurned) {
        long[] stores = full();
        stores[1] = a;
        stores[6] = b;
        answersOnly("compare(1, 6)", stores, want, bench -> bench.compare(1, 6));
        answersOnly("compare(6, 1)", stores, wantTurned, bench -> bench.compare(6, 1));
    }

    private static void eachStoreWithEach() {
        long[] stores = {d(-3.0), d(-2.0), d(-1.0), d(0.0), d(1.0), d(2.0), d(3.0), d(4.0)};
        for (int a = 0; a < 8; a++) {
            for (int b = 0; b < 8; b++) {
                int first = a;
                int second = b;
                int want = a < b ? LESS : a == b ? EQUAL : GREATER;
                answersOnly("compare(" + a + ", " + b + ")", stores, want, bench -> bench.compare(first, second));
            }
        }
    }

    private static void lessAndGreater() {
        compared(d(1.0), d(2.0), LESS, GREATER);
        compared(d(-2.0), d(-1.0), LESS, GREATER);
        compared(d(-1.0), d(1.0), LESS, GREATER);
        compared(0x3ff0000000000000L, 0x3ff0000000000001L, LESS, GREATER);
        compared(0xbff0000000000001L, 0xbff0000000000000L, LESS, GREATER);
    }

    private static void equal() {
        compared(d(1.5), d(1.5), EQUAL, EQUAL);
        compared(d(-1.5), d(-1.5), EQUAL, EQUAL);
        compared(d(-1.5), d(1.5), LESS, GREATER);
    }

    private static void zerosAreEqual() {
        compared(MINUS_ZERO, 0L, EQUAL, EQUAL);
        compared(0L, 0L, EQUAL, EQUAL);
        compared(MINUS_ZERO, MINUS_ZERO, EQUAL, EQUAL);
    }

    private static void besideZero() {
        compared(0L, LEAST, LESS, GREATER);
        compared(MINUS_ZERO, LEAST, LESS, GREATER);
        compared(MINUS_LEAST, 0L, LESS, GREATER);
        compared(MINUS_LEAST, MINUS_ZERO, LESS, GREATER);
        compared(MINUS_LEAST, LEAST, LESS, GREATER);
    }

    private static void infinite() {
        compared(GREATEST, INFINITE, LESS, GREATER);
        compared(MINUS_INFINITE, MINUS_GREATEST, LESS, GREATER);
        compared(MINUS_INFINITE, INFINITE, LESS, GREATER);
        compared(INFINITE, INFINITE, EQUAL, EQUAL);
        compared(MINUS_INFINITE, MINUS_INFINITE, EQUAL, EQUAL);
    }

    private static void noNumberIsNeitherLessNorEqualNorGreater() {
        for (long bits : NO_NUMBERS) {
            compared(bits, d(1.0), NEITHER, NEITHER);
            compared(bits, MINUS_ZERO, NEITHER, NEITHER);
            compared(bits, INFINITE, NEITHER, NEITHER);
            compared(bits, MINUS_INFINITE, NEITHER, NEITHER);
            compared(bits, bits, NEITHER, NEITHER);
            compared(bits, NO_NUMBER, NEITHER, NEITHER);
        }
    }

    private static void noNumberIsNotEqualToItsOwnStore() {
        answersOnly("compare(2, 2)", full(), NEITHER, bench -> bench.compare(2, 2));
    }

    private static void anotherFirstStoreIsRefused() {
        for (int no : NO_STORES) {
            refused("compare(" + no + ", 1)", -1, bench -> bench.compare(no, 1));
        }
    }

    private static void anotherSecondStoreIsRefused() {
        for (int no : NO_STORES) {
            refused("compare(1, " + no + ")", -1, bench -> bench.compare(1, no));
        }
    }

    private static void twoOtherStoresAreRefused() {
        for (int no : NO_STORES) {
            refused("compare(" + no + ", " + no + ")", -1, bench -> bench.compare(no, no));
        }
    }
}
