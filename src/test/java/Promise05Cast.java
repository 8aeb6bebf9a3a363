/** Promise 5: cast. */
public final class Promise05Cast extends Checks {
    private static final long NO_CAST = 4611686018427387904L;
    private static final long MOST_INT = 2147483647L;
    private static final long LEAST_INT = -2147483648L;
    private static final long MOST_LONG = 9223372036854775807L;
    private static final long LEAST_LONG = -9223372036854775808L;

    public static void main(String[] args) {
        runAll(Promise05Cast.class);
    }

    /** A store as int, long, short, char, byte. */
    private static void casts(long bits, long... want) {
        for (int kind = 0; kind < 5; kind++) {
            int which = kind;
            long[] stores = full();
            stores[2] = bits;
            answersOnly("cast(2, " + kind + ")", stores, want[kind], bench -> bench.cast(2, which));
        }
    }

    private static void eachStore() {
        long[] stores = {d(0.5), d(1.5), d(2.5), d(3.5), d(4.5), d(5.5), d(6.5), d(7.5)};
        for (int k = 0; k < 8; k++) {
            for (int kind = 0; kind < 5; kind++) {
                int store = k;
                int which = kind;
                answersOnly("cast(" + k + ", " + kind + ")", stores, k, bench -> bench.cast(store, which));
            }
        }
    }

    private static void cutTo0() {
        casts(0L, 0, 0, 0, 0, 0);
        casts(MINUS_ZERO, 0, 0, 0, 0, 0);
        casts(LEAST, 0, 0, 0, 0, 0);
        casts(MINUS_LEAST, 0, 0, 0, 0, 0);
        casts(0x3fefffffffffffffL, 0, 0, 0, 0, 0);
        casts(0xbfefffffffffffffL, 0, 0, 0, 0, 0);
        casts(d(1.0), 1, 1, 1, 1, 1);
        casts(0x3fffffffffffffffL, 1, 1, 1, 1, 1);
        casts(d(-1.0), -1, -1, -1, 65535, -1);
        casts(0xbfffffffffffffffL, -1, -1, -1, 65535, -1);
        casts(d(-2.5), -2, -2, -2, 65534, -2);
        casts(0x432fffffffffffffL, MOST_INT, 4503599627370495L, -1, 65535, -1);
        casts(0xc32fffffffffffffL, LEAST_INT, -4503599627370495L, 0, 0, 0);
        casts(0x4330000000000001L, MOST_INT, 4503599627370497L, -1, 65535, -1);
    }

    private static void theGreatestInt() {
        casts(d(2147483646.5), 2147483646, 2147483646, -2, 65534, -2);
        casts(d(2147483647.0), MOST_INT, 2147483647, -1, 65535, -1);
        casts(0x41dfffffffffffffL, MOST_INT, 2147483647, -1, 65535, -1);
        casts(d(2147483648.0), MOST_INT, 2147483648L, -1, 65535, -1);
        casts(d(4294967296.0), MOST_INT, 4294967296L, -1, 65535, -1);
    }

    private static void theLeastInt() {
        casts(d(-2147483647.5), -2147483647, -2147483647, 1, 1, 1);
        casts(d(-2147483648.0), LEAST_INT, -2147483648L, 0, 0, 0);
        casts(d(-2147483648.5), LEAST_INT, -2147483648L, 0, 0, 0);
        casts(d(-2147483649.0), LEAST_INT, -2147483649L, 0, 0, 0);
        casts(d(-4294967295.0), LEAST_INT, -4294967295L, 0, 0, 0);
    }

    private static void theGreatestLong() {
        casts(0x43d0000000000000L, MOST_INT, 4611686018427387904L, -1, 65535, -1);
        casts(0x43dfffffffffffffL, MOST_INT, 9223372036854774784L, -1, 65535, -1);
        casts(0x43e0000000000000L, MOST_INT, MOST_LONG, -1, 65535, -1);
        casts(0x43f0000000000001L, MOST_INT, MOST_LONG, -1, 65535, -1);
        casts(GREATEST, MOST_INT, MOST_LONG, -1, 65535, -1);
    }

    private static void theLeastLong() {
        casts(0xc3dfffffffffffffL, LEAST_INT, -9223372036854774784L, 0, 0, 0);
        casts(0xc3e0000000000000L, LEAST_INT, LEAST_LONG, 0, 0, 0);
        casts(0xc3e0000000000001L, LEAST_INT, LEAST_LONG, 0, 0, 0);
        casts(MINUS_GREATEST, LEAST_INT, LEAST_LONG, 0, 0, 0);
    }

    private static void infinite() {
        casts(INFINITE, MOST_INT, MOST_LONG, -1, 65535, -1);
        casts(MINUS_INFINITE, LEAST_INT, LEAST_LONG, 0, 0, 0);
    }

    private static void noNumberIs0() {
        for (long bits : NO_NUMBERS) {
            casts(bits, 0, 0, 0, 0, 0);
        }
    }

    private static void shortIsTheLowestBitsOfTheInt() {
        casts(d(32767.9), 32767, 32767, 32767, 32767, -1);
        casts(d(32768.0), 32768, 32768, -32768, 32768, 0);
        casts(d(-32768.9), -32768, -32768, -32768, 32768, 0);
        casts(d(-32769.0), -32769, -32769, 32767, 32767, -1);
    }

    private static void charIsTheLowestBitsOfTheInt() {
        casts(d(65535.9), 65535, 65535, -1, 65535, -1);
        casts(d(65536.0), 65536, 65536, 0, 0, 0);
        casts(d(70000.0), 70000, 70000, 4464, 4464, 112);
    }

    private static void byteIsTheLowestBitsOfTheInt() {
        casts(d(127.9), 127, 127, 127, 127, 127);
        casts(d(128.0), 128, 128, 128, 128, -128);
        casts(d(255.5), 255, 255, 255, 255, -1);
        casts(d(256.0), 256, 256, 256, 256, 0);
        casts(d(-128.9), -128, -128, -128, 65408, -128);
        casts(d(-129.0), -129, -129, -129, 65407, 127);
    }

    private static void theIntIsCutBeforeItsLowestBitsAreTaken() {
        casts(d(4294967301.0), MOST_INT, 4294967301L, -1, 65535, -1);
        casts(d(-4294967301.0), LEAST_INT, -4294967301L, 0, 0, 0);
    }

    private static void anotherKindIsRefused() {
        for (int kind : new int[] {-1, 5, 6, 256, 65536, -2147483648, 2147483647}) {
            refused("cast(0, " + kind + ")", NO_CAST, bench -> bench.cast(0, kind));
            refused("cast(2, " + kind + ")", NO_CAST, bench -> bench.cast(2, kind));
        }
    }

    private static void anotherStoreIsRefused() {
        for (int no : NO_STORES) {
            for (int kind = -1; kind <= 5; kind++) {
                int which = kind;
                refused("cast(" + no + ", " + kind + ")", NO_CAST, bench -> bench.cast(no, which));
            }
        }
    }
}
