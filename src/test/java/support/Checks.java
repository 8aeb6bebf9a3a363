import java.lang.reflect.InvocationTargetException;
import java.lang.reflect.Method;
import java.lang.reflect.Modifier;
import java.util.Arrays;
import java.util.Comparator;

/** What the tests share: each test is run for itself, and tells every answer that is not the one due. */
abstract class Checks {
    static final long NO_NUMBER = 0x7ff8000000000000L;
    static final long INFINITE = 0x7ff0000000000000L;
    static final long MINUS_INFINITE = 0xfff0000000000000L;
    static final long MINUS_ZERO = 0x8000000000000000L;
    static final long LEAST = 0x0000000000000001L;
    static final long MINUS_LEAST = 0x8000000000000001L;
    static final long GREATEST_BELOW_NORMAL = 0x000fffffffffffffL;
    static final long LEAST_NORMAL = 0x0010000000000000L;
    static final long GREATEST = 0x7fefffffffffffffL;
    static final long MINUS_GREATEST = 0xffefffffffffffffL;

    static final long LEAST_FLOAT = 0x36a0000000000000L;
    static final long MINUS_LEAST_FLOAT = 0xb6a0000000000000L;
    static final long GREATEST_FLOAT = 0x47efffffe0000000L;
    static final long MINUS_GREATEST_FLOAT = 0xc7efffffe0000000L;

    /** BITS that are no number: the ends of their two halves, with and without a sign. */
    static final long[] NO_NUMBERS = {
        0x7ff0000000000001L, 0x7ff7ffffffffffffL, 0x7ff8000000000000L, 0x7ff8000000000001L, 0x7fffffffffffffffL,
        0xfff0000000000001L, 0xfff7ffffffffffffL, 0xfff8000000000000L, 0xfff8000000000001L, 0xffffffffffffffffL,
    };

    /** No stores: beside the first and the last, at the ends of int, and with a store in the lowest bits. */
    static final int[] NO_STORES = {-1, 8, -8, 9, 16, 256, 65536, -2147483648, -2147483647, 2147483647};

    private static final int STORES = 8;

    /** Stores that tell any change: no two are alike, and each kind of number is among them. */
    private static final long[] FULL = {
        0x3ff8000000000000L, MINUS_ZERO, NO_NUMBER, INFINITE, MINUS_INFINITE, LEAST, GREATEST, 0xc01c000000000000L,
    };

    private static String test = "";
    private static int wrong = 0;

    interface Call {
        long on(NumberBench bench);
    }

    /** Each static method that takes nothing is a test. */
    static void runAll(Class<?> tests) {
        Method[] methods = tests.getDeclaredMethods();
        Arrays.sort(methods, Comparator.comparing(Method::getName));
        int count = 0;
        for (Method method : methods) {
            if (Modifier.isStatic(method.getModifiers()) && method.getParameterCount() == 0 && !method.isSynthetic()) {
                run(method);
                count++;
            }
        }
        if (count == 0 || wrong != 0) {
            System.out.println(count + " tests, " + wrong + " answers are not as due");
            System.exit(1);
        }
        System.out.println(count + " tests, all answers are as due");
    }

    private static void run(Method method) {
        test = method.getName();
        try {
            method.setAccessible(true);
            method.invoke(null);
        } catch (InvocationTargetException thrown) {
            wrong++;
            System.out.println(test + ": threw " + thrown.getCause());
        } catch (IllegalAccessException shut) {
            wrong++;
            System.out.println(test + ": could not be run, " + shut);
        }
    }

    static void due(String call, long got, long want) {
        if (got != want) {
            wrong++;
            System.out.println(test + ": " + call + " answered " + hex(got) + ", due is " + hex(want));
        }
    }

    static String hex(long bits) {
        return "0x" + Long.toHexString(bits);
    }

    /** The BITS of a double that is written out. */
    static long d(double value) {
        return Double.doubleToLongBits(value);
    }

    static NumberBench bench(long... bits) {
        NumberBench bench = new NumberBench();
        for (int k = 0; k < bits.length; k++) {
            due("keep(" + k + ", " + hex(bits[k]) + ")", bench.keep(k, bits[k]), 0);
        }
        return bench;
    }

    static long[] full() {
        return FULL.clone();
    }

    /** The BITS of a store, by a call that leaves it as it is: the less of a number and itself. */
    static long store(NumberBench bench, int k) {
        return bench.reckon(13, k, k, k);
    }

    static void holds(String when, NumberBench bench, long[] want) {
        for (int k = 0; k < STORES; k++) {
            due("store " + k + " after " + when, store(bench, k), want[k]);
        }
    }

    /** The call answers so, and changes nothing: in an object that is new, and in one whose stores are full. */
    static void refused(String call, long want, Call made) {
        NumberBench fresh = new NumberBench();
        due(call + " of a new object", made.on(fresh), want);
        holds(call, fresh, new long[STORES]);
        answersOnly(call, full(), want, made);
    }

    /** The call answers so, and changes nothing. Stores that are not given are 0. */
    static void answersOnly(String call, long[] stores, long want, Call made) {
        NumberBench bench = bench(stores);
        String text = call + " with stores " + Arrays.toString(hexes(stores));
        due(text, made.on(bench), want);
        holds(text, bench, tolds(stores));
    }

    /** The call answers so, which store k becomes, and changes no other store. */
    static void becomes(String call, long[] stores, int k, long want, Call made) {
        NumberBench bench = bench(stores);
        due(call, made.on(bench), want);
        long[] then = tolds(stores);
        then[k] = want;
        holds(call, bench, then);
    }

    /** reckon of two numbers, from two stores into a third. */
    static void reckoned(int op, long a, long b, long want) {
        long[] stores = full();
        stores[3] = a;
        stores[6] = b;
        String call = "reckon of op " + op + " of " + hex(a) + " and " + hex(b);
        becomes(call, stores, 1, want, bench -> bench.reckon(op, 1, 3, 6));
    }

    private static long[] tolds(long[] stores) {
        return Arrays.stream(Arrays.copyOf(stores, STORES)).map(Checks::told).toArray();
    }

    private static long told(long bits) {
        return (bits & 0x7fffffffffffffffL) > INFINITE ? NO_NUMBER : bits;
    }

    private static String[] hexes(long[] stores) {
        return Arrays.stream(stores).mapToObj(Checks::hex).toArray(String[]::new);
    }
}
