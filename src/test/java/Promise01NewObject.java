import java.util.ArrayList;
import java.util.List;

/** Promise 1: a new object has eight stores that are 0. Its use for 512 calls is in Uses512Calls. */
public final class Promise01NewObject extends Checks {
    public static void main(String[] args) {
        runAll(Promise01NewObject.class);
    }

    private static void eightStoresAre0AtFirst() {
        holds("being made", new NumberBench(), new long[8]);
    }

    private static void the0HasNoSign() {
        for (int k = 0; k < 8; k++) {
            int store = k;
            int one = (k + 1) % 8;
            NumberBench bench = new NumberBench();
            due("keep of 1", bench.keep(one, d(1.0)), 0);
            due("1 / store " + k, bench.reckon(3, one, one, k), INFINITE);
            answersOnly("single(" + k + ")", new long[8], 0, fresh -> fresh.single(store));
        }
    }

    private static void callsThatOnlyReadTheStoresAnswer0() {
        for (int kind = 0; kind < 5; kind++) {
            due("cast(7, " + kind + ")", new NumberBench().cast(7, kind), 0);
        }
        for (int way = 0; way < 3; way++) {
            due("sum(" + way + ")", new NumberBench().sum(way), 0);
        }
        due("horner(7)", new NumberBench().horner(7), 0);
        due("compare(0, 7)", new NumberBench().compare(0, 7), 22);
    }

    private static void objectsShareNothing() {
        NumberBench one = bench(full());
        NumberBench other = new NumberBench();
        holds("another object's keeps", other, new long[8]);
        holds("another object was made", one, full());
    }

    private static void manyObjectsStandAtOnce() {
        List<NumberBench> benches = new ArrayList<>();
        for (int i = 0; i < 1000; i++) {
            benches.add(bench(d(i), d(-i)));
        }
        for (int i = 0; i < 1000; i++) {
            due("store 1 of object " + i, store(benches.get(i), 1), d(-i));
        }
    }

    private static void refusedIsMinus1() {
        due("REFUSED", NumberBench.REFUSED, -1);
    }
}
