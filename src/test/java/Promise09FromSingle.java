/** Promise 9: fromSingle. */
public final class Promise09FromSingle extends Checks {
    private static final int[] NO_NUMBER_FLOATS = {
        0x7f800001, 0x7fbfffff, 0x7fc00000, 0x7fc00001, 0x7fffffff,
        0xff800001, 0xffbfffff, 0xffc00000, 0xffc00001, 0xffffffff,
    };

    public static void main(String[] args) {
        runAll(Promise09FromSingle.class);
    }

    private static void fromSingle(int bits, long want) {
        String call = "fromSingle(3, " + hex(bits & 0xffffffffL) + ")";
        becomes(call, full(), 3, want, bench -> bench.fromSingle(3, bits));
    }

    private static void eachStore() {
        for (int k = 0; k < 8; k++) {
            int store = k;
            becomes("fromSingle(" + k + ", 0.5)", full(), k, d(0.5), bench -> bench.fromSingle(store, 0x3f000000));
        }
    }

    private static void ordinaryFloats() {
        fromSingle(0x3f800000, d(1.0));
        fromSingle(0xc0200000, d(-2.5));
        fromSingle(0x3dcccccd, 0x3fb99999a0000000L);
        fromSingle(0x3f800001, 0x3ff0000020000000L);
    }

    private static void zeroWithASign() {
        fromSingle(0, 0L);
        fromSingle(0x80000000, MINUS_ZERO);
    }

    private static void belowAllThatIsNormal() {
        fromSingle(1, LEAST_FLOAT);
        fromSingle(0x80000001, MINUS_LEAST_FLOAT);
        fromSingle(3, 0x36b8000000000000L);
        fromSingle(0x007fffff, 0x380fffffc0000000L);
        fromSingle(0x00800000, 0x3810000000000000L);
        fromSingle(0x807fffff, 0xb80fffffc0000000L);
    }

    private static void theGreatestAndTheInfinite() {
        fromSingle(0x7f7fffff, GREATEST_FLOAT);
        fromSingle(0xff7fffff, MINUS_GREATEST_FLOAT);
        fromSingle(0x7f800000, INFINITE);
        fromSingle(0xff800000, MINUS_INFINITE);
    }

    private static void noNumbersAreToldAsOne() {
        for (int bits : NO_NUMBER_FLOATS) {
            fromSingle(bits, NO_NUMBER);
        }
    }

    private static void singleTellsTheSameFloat() {
        for (int bits : new int[] {0, 1, 0x007fffff, 0x00800000, 0x3f800001, 0x7f7fffff, 0x7f800000, 0x80000000, 0xff800000}) {
            NumberBench bench = new NumberBench();
            bench.fromSingle(4, bits);
            due("single after fromSingle", bench.single(4), bits);
        }
    }

    private static void anotherStoreIsRefused() {
        for (int no : NO_STORES) {
            refused("fromSingle(" + no + ", 1.0)", 1, bench -> bench.fromSingle(no, 0x3f800000));
            refused("fromSingle(" + no + ", 0)", 1, bench -> bench.fromSingle(no, 0));
            refused("fromSingle(" + no + ", no number)", 1, bench -> bench.fromSingle(no, 0x7fc00000));
        }
    }
}
