/** Promise 8: single. */
public final class Promise08Single extends Checks {
    public static void main(String[] args) {
        runAll(Promise08Single.class);
    }

    private static void single(long bits, int want) {
        long[] stores = full();
        stores[2] = bits;
        answersOnly("single(2)", stores, want, bench -> bench.single(2));
    }

    private static void eachStore() {
        int[] want = {0x3fc00000, 0x80000000, 0x7fc00000, 0x7f800000, 0xff800000, 0, 0x7f800000, 0xc0e00000};
        for (int k = 0; k < 8; k++) {
            int store = k;
            answersOnly("single(" + k + ")", full(), want[k], bench -> bench.single(store));
        }
    }

    private static void nearestFloat() {
        single(d(1.0), 0x3f800000);
        single(d(-1.0), 0xbf800000);
        single(0x3fb999999999999aL, 0x3dcccccd);
        single(0x3ff000000fffffffL, 0x3f800000);
        single(0x3ff0000010000001L, 0x3f800001);
    }

    private static void floatBetweenTwoHasLastBit0() {
        single(0x3ff0000010000000L, 0x3f800000);
        single(0x3ff0000030000000L, 0x3f800002);
        single(0xbff0000010000000L, 0xbf800000);
        single(0xbff0000030000000L, 0xbf800002);
    }

    private static void zeroWithASign() {
        single(0L, 0);
        single(MINUS_ZERO, -2147483648);
    }

    private static void tooLargeIsInfinite() {
        single(0x47efffffefffffffL, 0x7f7fffff);
        single(0x47effffff0000000L, 0x7f800000);
        single(0xc7efffffefffffffL, 0xff7fffff);
        single(0xc7effffff0000000L, 0xff800000);
        single(GREATEST, 0x7f800000);
        single(MINUS_GREATEST, 0xff800000);
    }

    private static void tooSmallIs0WithTheSign() {
        single(0x3690000000000000L, 0);
        single(0x3690000000000001L, 1);
        single(0xb690000000000000L, -2147483648);
        single(0xb690000000000001L, -2147483647);
        single(LEAST, 0);
        single(MINUS_LEAST, -2147483648);
        single(LEAST_NORMAL, 0);
    }

    private static void belowAllThatIsNormal() {
        single(LEAST_FLOAT, 1);
        single(MINUS_LEAST_FLOAT, 0x80000001);
        single(0x36a8000000000000L, 2);
        single(0x36b4000000000000L, 2);
        single(0x380fffffdfffffffL, 0x007fffff);
        single(0x380fffffe0000000L, 0x00800000);
        single(0x3810000000000000L, 0x00800000);
    }

    private static void infinite() {
        single(INFINITE, 0x7f800000);
        single(MINUS_INFINITE, 0xff800000);
    }

    private static void noNumberIsToldAsOne() {
        for (long bits : NO_NUMBERS) {
            single(bits, 0x7fc00000);
        }
    }

    private static void anotherStoreIsRefused() {
        for (int no : NO_STORES) {
            refused("single(" + no + ")", 1, bench -> bench.single(no));
        }
    }
}
