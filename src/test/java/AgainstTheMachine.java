import java.util.Random;

/** The class against the same formulas in Java's own doubles and floats, over all pairs of edges and a fixed random row. */
public final class AgainstTheMachine {
    private static final int MOST_CALLS = 512;
    private static final int ROUNDS = 40_000;
    private static final int OPS = 15;

    private static final double[] EDGES = {
        0.0, 1.0, 1.5, 2.0, 3.0, 0.1, 7.0, 10.0, 1 + 0x1p-52, 1 - 0x1p-53, 1 + 0x1p-24, 1 + 0x3p-24, 1 + 0x1p-23,
        0x1p24, 0x1p24 + 1, 0x1p24 + 2, 0x1p31, 0x1p31 - 1, 0x1p31 - 0.5, 0x1p31 + 1, 0x1p32, 0x1p52, 0x1p52 + 0.5, 0x1p53,
        0x1p53 + 2, 0x1p62, 0x1p63, 0x1.fffffffffffffp62, 0x1p64, 0x1p-53, 0x1p-54, 0x1.8p-54, 0x1p-149, 0x1p-150,
        0x1.0000000000001p-150, 0x1.8p-149, 0x3p-149, 0x1p-126, 0x1.ffffffp-127, 0x1.fffffcp-127, 0x1.fffffep127,
        0x1.ffffffp127, 0x1.fffffefffffffp127, 0x1p128, 0x1p970, 0x1p1022, 0x1p1023, 0x1p-537, 0x1p-538, 0x1.8p512,
        65535.0, 65536.0, 32768.5, 128.0, 0.5, 0x1.fffffffffffffp-2, Double.MIN_VALUE, 2 * Double.MIN_VALUE,
        3 * Double.MIN_VALUE, Double.MIN_NORMAL, Double.MIN_NORMAL - Double.MIN_VALUE, 2 * Double.MIN_NORMAL,
        Double.MAX_VALUE, 0x1.ffffffffffffep1023, Double.POSITIVE_INFINITY, Double.NaN,
    };

    private static int wrong = 0;
    private static NumberBench bench = new NumberBench();
    private static int calls = 0;

    private final double[] stores = new double[8];

    public static void main(String[] args) {
        overEdges();
        Random random = new Random(754);
        for (int round = 0; round < ROUNDS; round++) {
            pair(randomNumber(random), randomNumber(random));
            double near = randomNumber(random);
            pair(near, neighbour(near, random));
            wholeOf(random.nextLong() >> random.nextInt(64));
            wholeOf(halfway(random));
            singleOf(random.nextInt());
            new AgainstTheMachine().row(random);
        }
        System.out.println(wrong == 0 ? "all answers are as due" : wrong + " answers are not as due");
        if (wrong != 0) {
            System.exit(1);
        }
    }

    private static void due(String call, long got, long want) {
        if (got != want) {
            wrong++;
            if (wrong < 50) {
                System.out.println(call + " answered " + Long.toHexString(got) + ", due is " + Long.toHexString(want));
            }
        }
    }

    /** An object that has so many calls left: the document ends an object's use after 512. */
    private static NumberBench benchFor(int needed) {
        if (calls + needed > MOST_CALLS) {
            bench = new NumberBench();
            calls = 0;
        }
        calls += needed;
        return bench;
    }

    private static void overEdges() {
        for (double a : EDGES) {
            for (double b : EDGES) {
                pair(a, b);
                pair(-a, b);
                pair(a, -b);
                pair(-a, -b);
            }
        }
        for (int shift = 0; shift < 64; shift++) {
            for (int more = -3; more <= 3; more++) {
                wholeOf((1L << shift) + more);
                wholeOf(-(1L << shift) + more);
                singleOf((1 << shift) + more);
            }
        }
    }

    private static void pair(double a, double b) {
        NumberBench x = benchFor(OPS + 10);
        x.keep(0, Double.doubleToRawLongBits(a));
        x.keep(1, Double.doubleToRawLongBits(b));
        String of = " of " + Double.toHexString(a) + ", " + Double.toHexString(b);
        for (int op = 0; op < OPS; op++) {
            due("reckon " + op + of, x.reckon(op, 2, 0, 1), Double.doubleToLongBits(reckoned(op, a, b)));
        }
        long[] casts = {(int) a, (long) a, (short) a, (char) a, (byte) a};
        for (int kind = 0; kind < casts.length; kind++) {
            due("cast " + kind + of, x.cast(0, kind), casts[kind]);
        }
        due("compare" + of, x.compare(0, 1), compared(a, b));
        due("single" + of, x.single(0), Float.floatToIntBits((float) a));
    }

    private static double reckoned(int op, double a, double b) {
        float fa = (float) a;
        float fb = (float) b;
        switch (op) {
            case 0: return a + b;
            case 1: return a - b;
            case 2: return a * b;
            case 3: return a / b;
            case 4: return a % b;
            case 5: return root(a);
            case 6: return -a;
            case 7: return fa;
            case 8: return fa + fb;
            case 9: return fa - fb;
            case 10: return fa * fb;
            case 11: return fa / fb;
            case 12: return fa % fb;
            case 13: return Math.min(a, b);
            default: return Math.max(a, b);
        }
    }

    private static double root(double d) {
        if (!(d > 0) || Double.isInfinite(d)) {
            return d;
        }
        double s = Double.longBitsToDouble(Double.doubleToLongBits(d) / 2 + 2303591209400008704L);
        for (int i = 0; i < 5; i++) {
            s = (s + d / s) / 2.0;
        }
        return s;
    }

    private static int compared(double a, double b) {
        return (a < b ? 1 : 0) + (a <= b ? 2 : 0) + (a == b ? 4 : 0) + (a != b ? 8 : 0) + (a >= b ? 16 : 0) + (a > b ? 32 : 0);
    }

    private static void wholeOf(long v) {
        NumberBench x = benchFor(2);
        due("whole 0 of " + v, x.whole(3, 0, v), Double.doubleToLongBits((double) v));
        due("whole 1 of " + v, x.whole(3, 1, v), Double.doubleToLongBits((float) v));
    }

    private static void singleOf(int bits) {
        NumberBench x = benchFor(2);
        due("fromSingle of " + bits, x.fromSingle(4, bits), Double.doubleToLongBits(Float.intBitsToFloat(bits)));
        due("single of it", x.single(4), Float.floatToIntBits(Float.intBitsToFloat(bits)));
    }

    private void row(Random random) {
        NumberBench x = benchFor(8 + 8 + 3);
        int spread = 1 + random.nextInt(200);
        for (int k = 0; k < 8; k++) {
            boolean any = random.nextInt(40) == 0;
            stores[k] = any ? randomNumber(random) : Math.scalb(random.nextDouble() - 0.5, random.nextInt(spread));
            x.keep(k, Double.doubleToRawLongBits(stores[k]));
        }
        for (int k = 0; k < 8; k++) {
            due("horner", x.horner(k), Double.doubleToLongBits(polynomial(stores[k])));
        }
        due("sum 0", x.sum(0), Double.doubleToLongBits(plainSum()));
        due("sum 1", x.sum(1), Double.doubleToLongBits(floatSum()));
        due("sum 2", x.sum(2), Double.doubleToLongBits(sumKeepingLosses()));
    }

    private double polynomial(double x) {
        double e = stores[7];
        for (int k = 6; k >= 0; k--) {
            e = e * x + stores[k];
        }
        return e;
    }

    private double plainSum() {
        double t = 0.0;
        for (double it : stores) {
            t = t + it;
        }
        return t;
    }

    private float floatSum() {
        float t = 0.0f;
        for (double it : stores) {
            t = t + (float) it;
        }
        return t;
    }

    private double sumKeepingLosses() {
        double t = 0.0;
        double e = 0.0;
        for (double it : stores) {
            double y = it - e;
            double z = t + y;
            e = (z - t) - y;
            t = z;
        }
        return t;
    }

    private static double randomNumber(Random random) {
        switch (random.nextInt(6)) {
            case 0:
                return Double.longBitsToDouble(random.nextLong());
            case 1:
                return Float.intBitsToFloat(random.nextInt());
            case 2:
                return Math.scalb(random.nextDouble() - 0.5, random.nextInt(140) - 70);
            case 3:
                return Double.longBitsToDouble(random.nextLong() & 0x801fffffffffffffL);
            case 4:
                return (random.nextLong() >> 40) * Math.scalb(1.0, random.nextInt(60) - 170);
            default:
                return random.nextLong() >> random.nextInt(64);
        }
    }

    /** A number close by, or about 2^52 times as far or as near, where cancelling and rounding are hardest. */
    private static double neighbour(double near, Random random) {
        if (random.nextBoolean()) {
            return -Double.longBitsToDouble(Double.doubleToLongBits(near) + random.nextInt(9) - 4);
        }
        return Math.scalb(near, random.nextInt(112) - 56) * (random.nextBoolean() ? 1 : -1);
    }

    /** A whole number just at, above or below the middle of two floats or doubles. */
    private static long halfway(Random random) {
        int bits = random.nextBoolean() ? 25 : 54;
        long middle = random.nextLong() >>> 64 - bits | 1;
        int shift = random.nextInt(64 - bits);
        return (middle << shift) + random.nextInt(3) - 1;
    }
}
