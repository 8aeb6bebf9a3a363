/** Promise 7: horner. */
public final class Promise07Horner extends Checks {
    public static void main(String[] args) {
        runAll(Promise07Horner.class);
    }

    private static void horner(int x, long want, long... stores) {
        answersOnly("horner(" + x + ")", stores, want, bench -> bench.horner(x));
    }

    private static void eachStoreHasItsPart() {
        for (int k = 0; k < 8; k++) {
            long[] stores = new long[8];
            stores[0] = d(2.0);
            stores[k] = d(2.0);
            long want = k == 0 ? d(2.0) : d((4 << k - 1) + 2.0);
            horner(0, want, stores);
        }
    }

    private static void eachStoreAsX() {
        long[] stores = {d(1.0), d(2.0), d(3.0), d(4.0), d(5.0), d(6.0), d(7.0), d(8.0)};
        double[] want = {36, 1793, 24604, 167481, 756836, 2620201, 7526268, 18831569};
        for (int x = 0; x < 8; x++) {
            horner(x, d(want[x]), stores);
        }
    }

    private static void theFirstIsHItself() {
        horner(6, d(1.0), d(1.0), 0, 0, 0, 0, 0, 0, GREATEST);
        horner(7, d(256.0), 0, 0, 0, 0, 0, 0, 0, d(2.0));
    }

    private static void theLastIsA() {
        horner(1, d(3.0), d(3.0), 0);
        horner(1, MINUS_INFINITE, MINUS_INFINITE, 0);
        horner(1, LEAST, LEAST, MINUS_ZERO);
    }

    private static void eachSignRoundsForItself() {
        // (1 + 2^-30)^2 - 1: the product's 2^-60 is lost before the 1 is taken away.
        horner(1, 0x3e20000000000000L, d(-1.0), 0x3ff0000000400000L);
    }

    private static void fromGDownToA() {
        // 1 + 2^53 - 2^53 is 0 from H on, and 1 from A on.
        horner(0, d(1.0), d(1.0), 0, 0, 0, 0, 0xc340000000000000L, 0x4340000000000000L, d(1.0));
        horner(0, d(2.0), d(1.0), 0, 0, 0, 0, d(1.0), 0xc340000000000000L, 0x4340000000000000L);
    }

    private static void tooLargeIsInfinite() {
        horner(7, INFINITE, 0, 0, 0, 0, 0, 0, 0, GREATEST);
        horner(7, INFINITE, MINUS_GREATEST, 0, 0, 0, 0, 0, 0, MINUS_GREATEST);
        horner(6, MINUS_INFINITE, 0, 0, 0, 0, 0, 0, MINUS_GREATEST, GREATEST);
    }

    private static void tooSmallIs0() {
        horner(7, 0L, 0, 0, 0, 0, 0, 0, 0, LEAST);
        horner(7, 0L, MINUS_ZERO, MINUS_ZERO, MINUS_ZERO, MINUS_ZERO, MINUS_ZERO, MINUS_ZERO, MINUS_ZERO, LEAST);
        horner(7, LEAST, LEAST, 0, 0, 0, 0, 0, 0, LEAST);
    }

    private static void zeroWithASign() {
        long z = MINUS_ZERO;
        horner(1, 0L, z, z);
        horner(1, 0L, z, z, z, z, z, z, z, z);
        horner(1, z, z, z, z, z, z, z, z, 0);
    }

    private static void infiniteStores() {
        horner(0, NO_NUMBER, INFINITE);
        horner(7, INFINITE, 0, 0, 0, 0, 0, 0, 0, INFINITE);
        horner(7, INFINITE, 0, 0, 0, 0, 0, 0, 0, MINUS_INFINITE);
        horner(1, NO_NUMBER, d(1.0), 0, 0, 0, 0, 0, 0, INFINITE);
        horner(1, NO_NUMBER, MINUS_INFINITE, d(1.0), INFINITE);
    }

    private static void noNumberInAnyStore() {
        for (int k = 0; k < 8; k++) {
            for (long bits : NO_NUMBERS) {
                long[] stores = {d(1.0), d(1.0), d(1.0), d(1.0), d(1.0), d(1.0), d(1.0), d(1.0)};
                stores[k] = bits;
                horner(k, NO_NUMBER, stores);
                horner((k + 1) % 8, NO_NUMBER, stores);
            }
        }
    }

    private static void anotherStoreIsRefused() {
        for (int no : NO_STORES) {
            refused("horner(" + no + ")", 1, bench -> bench.horner(no));
        }
    }
}
