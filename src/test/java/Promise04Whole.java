/** Promise 4: whole. */
public final class Promise04Whole extends Checks {
    private static final long MOST = 9223372036854775807L;
    private static final long LEAST_WHOLE = -9223372036854775808L;

    public static void main(String[] args) {
        runAll(Promise04Whole.class);
    }

    private static void whole(int kind, long v, long want) {
        String call = "whole(2, " + kind + ", " + v + ")";
        becomes(call, full(), 2, want, bench -> bench.whole(2, kind, v));
    }

    private static void wholeOfBothKinds(long v, long want) {
        whole(0, v, want);
        whole(1, v, want);
    }

    private static void eachStore() {
        for (int k = 0; k < 8; k++) {
            int store = k;
            becomes("whole(" + k + ", 0, 5)", full(), k, d(5.0), bench -> bench.whole(store, 0, 5));
            becomes("whole(" + k + ", 1, -5)", full(), k, d(-5.0), bench -> bench.whole(store, 1, -5));
        }
    }

    private static void smallOnesAreExact() {
        wholeOfBothKinds(1, d(1.0));
        wholeOfBothKinds(-1, d(-1.0));
        wholeOfBothKinds(-12, d(-12.0));
        wholeOfBothKinds(16777215, d(16777215.0));
        wholeOfBothKinds(-16777216, d(-16777216.0));
        whole(0, 9007199254740991L, 0x433fffffffffffffL);
        whole(0, -9007199254740992L, 0xc340000000000000L);
    }

    private static void zeroHasNoSign() {
        wholeOfBothKinds(0, 0L);
    }

    private static void doubleBetweenTwoHasLastBit0() {
        whole(0, 9007199254740993L, 0x4340000000000000L);
        whole(0, 9007199254740995L, 0x4340000000000002L);
        whole(0, -9007199254740993L, 0xc340000000000000L);
        whole(0, -9007199254740995L, 0xc340000000000002L);
        whole(0, 18014398509481986L, 0x4350000000000000L);
        whole(0, 18014398509481990L, 0x4350000000000002L);
    }

    private static void doubleBesideTheMiddleIsTheNearer() {
        whole(0, 18014398509481985L, 0x4350000000000000L);
        whole(0, 18014398509481987L, 0x4350000000000001L);
        whole(0, 18014398509481989L, 0x4350000000000001L);
        whole(0, -18014398509481987L, 0xc350000000000001L);
    }

    private static void floatBetweenTwoHasLastBit0() {
        whole(1, 16777217, d(16777216.0));
        whole(1, 16777219, d(16777220.0));
        whole(1, -16777217, d(-16777216.0));
        whole(1, -16777219, d(-16777220.0));
        whole(0, 16777217, d(16777217.0));
    }

    private static void floatBesideTheMiddleIsTheNearer() {
        // The nearest double lies in the middle of two floats: to round twice would miss.
        whole(1, 4611686293305294849L, 0x43d0000020000000L);
        whole(1, 4611686843061108735L, 0x43d0000020000000L);
        whole(1, -4611686293305294849L, 0xc3d0000020000000L);
        whole(1, 4611686293305294848L, 0x43d0000000000000L);
        whole(1, 4611686843061108736L, 0x43d0000040000000L);
    }

    private static void theGreatestWholeNumber() {
        wholeOfBothKinds(MOST, 0x43e0000000000000L);
        wholeOfBothKinds(-MOST, 0xc3e0000000000000L);
        whole(0, MOST - 511, 0x43e0000000000000L);
        whole(0, MOST - 512, 0x43dfffffffffffffL);
        whole(1, MOST - 274877906943L, 0x43e0000000000000L);
        whole(1, MOST - 274877906944L, 0x43dfffffe0000000L);
    }

    private static void theLeastWholeNumber() {
        wholeOfBothKinds(LEAST_WHOLE, 0xc3e0000000000000L);
        wholeOfBothKinds(LEAST_WHOLE + 1, 0xc3e0000000000000L);
        whole(0, LEAST_WHOLE + 512, 0xc3e0000000000000L);
        whole(0, LEAST_WHOLE + 513, 0xc3dfffffffffffffL);
        whole(1, LEAST_WHOLE + 274877906944L, 0xc3e0000000000000L);
        whole(1, LEAST_WHOLE + 274877906945L, 0xc3dfffffe0000000L);
    }

    private static void anotherKindIsRefused() {
        for (int kind : new int[] {-1, 2, 3, 256, 65536, -2147483648, 2147483647}) {
            refused("whole(2, " + kind + ", 7)", 1, bench -> bench.whole(2, kind, 7));
        }
    }

    private static void anotherStoreIsRefused() {
        for (int no : NO_STORES) {
            refused("whole(" + no + ", 0, 7)", 1, bench -> bench.whole(no, 0, 7));
            refused("whole(" + no + ", 1, 7)", 1, bench -> bench.whole(no, 1, 7));
            refused("whole(" + no + ", 2, 7)", 1, bench -> bench.whole(no, 2, 7));
        }
    }
}
