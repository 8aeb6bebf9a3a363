/** Promise 2: keep. */
public final class Promise02Keep extends Checks {
    public static void main(String[] args) {
        runAll(Promise02Keep.class);
    }

    /** keep answers 0, which is not what the store becomes. */
    private static void kept(int k, long bits, long want) {
        NumberBench bench = bench(full());
        String call = "keep(" + k + ", " + hex(bits) + ")";
        due(call, bench.keep(k, bits), 0);
        long[] then = full();
        then[k] = want;
        holds(call, bench, then);
    }

    private static void eachStoreFromTheFirstToTheLast() {
        for (int k = 0; k < 8; k++) {
            kept(k, 0x3fe0000000000000L, 0x3fe0000000000000L);
        }
    }

    private static void keptAgainIsInPlaceOfTheFirst() {
        NumberBench bench = bench(d(1.0));
        due("keep again", bench.keep(0, d(2.0)), 0);
        due("store 0", store(bench, 0), d(2.0));
        due("keep 0", bench.keep(0, 0), 0);
        due("store 0", store(bench, 0), 0);
    }

    private static void zerosWithAndWithoutASign() {
        kept(0, 0L, 0L);
        kept(0, MINUS_ZERO, MINUS_ZERO);
    }

    private static void belowAllThatIsNormal() {
        kept(0, LEAST, LEAST);
        kept(0, MINUS_LEAST, MINUS_LEAST);
        kept(0, GREATEST_BELOW_NORMAL, GREATEST_BELOW_NORMAL);
        kept(0, LEAST_NORMAL, LEAST_NORMAL);
    }

    private static void theGreatestAndTheInfinite() {
        kept(0, GREATEST, GREATEST);
        kept(0, MINUS_GREATEST, MINUS_GREATEST);
        kept(0, INFINITE, INFINITE);
        kept(0, MINUS_INFINITE, MINUS_INFINITE);
    }

    private static void noNumbersAreToldAsOne() {
        for (long bits : NO_NUMBERS) {
            kept(0, bits, NO_NUMBER);
            kept(7, bits, NO_NUMBER);
        }
    }

    private static void noNumbersAreToldAsOneByEveryCall() {
        for (long bits : NO_NUMBERS) {
            long[] stores = {0, 0, 0, bits};
            answersOnly("horner(3)", stores, NO_NUMBER, bench -> bench.horner(3));
            answersOnly("horner(0)", stores, NO_NUMBER, bench -> bench.horner(0));
            answersOnly("sum(0)", stores, NO_NUMBER, bench -> bench.sum(0));
            answersOnly("sum(1)", stores, NO_NUMBER, bench -> bench.sum(1));
            answersOnly("sum(2)", stores, NO_NUMBER, bench -> bench.sum(2));
            answersOnly("single(3)", stores, 0x7fc00000, bench -> bench.single(3));
        }
    }

    private static void anotherStoreIsRefused() {
        for (int no : NO_STORES) {
            refused("keep(" + no + ", 1.0)", -1, bench -> bench.keep(no, d(1.0)));
            refused("keep(" + no + ", 0)", -1, bench -> bench.keep(no, 0L));
            refused("keep(" + no + ", no number)", -1, bench -> bench.keep(no, NO_NUMBER));
        }
    }
}
