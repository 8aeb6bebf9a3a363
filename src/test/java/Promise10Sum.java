/** Promise 10: sum. */
public final class Promise10Sum extends Checks {
    public static void main(String[] args) {
        runAll(Promise10Sum.class);
    }

    /** The sum in doubles, in floats, and with what is lost kept. */
    private static void sums(long plain, long inFloats, long lossesKept, long... stores) {
        answersOnly("sum(0)", stores, plain, bench -> bench.sum(0));
        answersOnly("sum(1)", stores, inFloats, bench -> bench.sum(1));
        answersOnly("sum(2)", stores, lossesKept, bench -> bench.sum(2));
    }

    private static void eachStoreHasItsPart() {
        sums(d(255.0), d(255.0), d(255.0), d(1.0), d(2.0), d(4.0), d(8.0), d(16.0), d(32.0), d(64.0), d(128.0));
        for (int k = 0; k < 8; k++) {
            long[] stores = new long[8];
            stores[k] = d(-1.5);
            sums(d(-1.5), d(-1.5), d(-1.5), stores);
        }
    }

    private static void from0To7() {
        sums(0x4340000000000000L, 0x4340000000000000L, 0x4340000000000001L, 0x4340000000000000L, d(1.0), d(1.0));
        sums(0x4340000000000001L, 0x4340000000000000L, 0x4340000000000001L, d(1.0), d(1.0), 0x4340000000000000L);
    }

    private static void what0StartsFromHasNoSign() {
        long z = MINUS_ZERO;
        sums(0L, 0L, 0L, z, z, z, z, z, z, z, z);
    }

    private static void sumsThatCancelOut() {
        sums(0L, 0L, 0L, d(-5.0), d(5.0));
        sums(0L, NO_NUMBER, 0L, GREATEST, MINUS_GREATEST);
        sums(0L, 0L, 0L, MINUS_LEAST, LEAST);
    }

    private static void eachFloatIsRoundedBeforeItIsAdded() {
        // 2^24 + 1 lies between two floats, and so does 2^24 + 3: both go to the one whose last bit is 0.
        sums(d(16777218.0), d(16777216.0), d(16777218.0), d(16777217.0), d(1.0));
        sums(d(33554436.0), d(33554436.0), d(33554436.0), d(16777217.0), d(16777219.0));
        sums(0x3ff0000010000001L, 0x3ff0000020000000L, 0x3ff0000010000001L, 0x3ff0000010000001L);
    }

    private static void eachSumOfFloatsIsRounded() {
        sums(d(16777218.0), d(16777216.0), d(16777218.0), d(16777216.0), d(1.0), d(1.0));
        sums(d(16777218.0), d(16777218.0), d(16777218.0), d(1.0), d(1.0), d(16777216.0));
    }

    private static void whatIsLostIsKept() {
        long half = 0x3ca0000000000000L;
        sums(d(1.0), d(1.0), 0x3ff0000000000002L, d(1.0), half, half, half, half);
        sums(d(1.0), d(1.0), 0x3ff0000000000003L, d(1.0), half, half, half, half, half, half);
        sums(d(1.0), d(1.0), 0x3ff0000000000004L, d(1.0), half, half, half, half, half, half, half);
    }

    private static void whatTheLastOneLosesIsNotAdded() {
        sums(0x4340000000000000L, 0x4340000000000000L, 0x4340000000000000L, 0, 0, 0, 0, 0, 0, 0x4340000000000000L, d(1.0));
    }

    private static void whatIsLostToAGreaterOneThatFollows() {
        // z - t is not the whole of y when it is greater than t: 1 is lost in all three ways.
        sums(0L, 0L, 0L, d(1.0), 0x4690000000000000L, 0xc690000000000000L);
    }

    private static void tooLargeIsInfinite() {
        sums(INFINITE, INFINITE, NO_NUMBER, GREATEST, GREATEST);
        sums(INFINITE, INFINITE, INFINITE, 0, 0, 0, 0, 0, 0, GREATEST, GREATEST);
        sums(MINUS_INFINITE, MINUS_INFINITE, MINUS_INFINITE, 0, 0, 0, 0, 0, 0, MINUS_GREATEST, MINUS_GREATEST);
    }

    private static void tooLargeInFloatsAlone() {
        sums(GREATEST, INFINITE, GREATEST, GREATEST);
        sums(0x47ffffffe0000000L, INFINITE, 0x47ffffffe0000000L, GREATEST_FLOAT, GREATEST_FLOAT);
    }

    private static void tooSmallInFloatsAlone() {
        sums(2L, 0L, 2L, LEAST, LEAST);
        sums(LEAST_FLOAT, 0L, LEAST_FLOAT, 0x3690000000000000L, 0x3690000000000000L);
        sums(LEAST_FLOAT, LEAST_FLOAT, LEAST_FLOAT, LEAST_FLOAT);
    }

    private static void infiniteStores() {
        sums(INFINITE, INFINITE, NO_NUMBER, INFINITE);
        sums(INFINITE, INFINITE, NO_NUMBER, INFINITE, INFINITE);
        sums(INFINITE, INFINITE, INFINITE, 0, 0, 0, 0, 0, 0, 0, INFINITE);
        sums(MINUS_INFINITE, MINUS_INFINITE, MINUS_INFINITE, 0, 0, 0, 0, 0, 0, 0, MINUS_INFINITE);
        sums(NO_NUMBER, NO_NUMBER, NO_NUMBER, 0, 0, 0, 0, 0, 0, INFINITE, MINUS_INFINITE);
    }

    private static void noNumberInAnyStore() {
        for (int k = 0; k < 8; k++) {
            for (long bits : NO_NUMBERS) {
                long[] stores = new long[8];
                stores[k] = bits;
                sums(NO_NUMBER, NO_NUMBER, NO_NUMBER, stores);
            }
        }
    }

    private static void anotherWayIsRefused() {
        for (int way : new int[] {-1, 3, 4, 256, 65536, -2147483648, 2147483647}) {
            refused("sum(" + way + ")", 1, bench -> bench.sum(way));
        }
    }
}
