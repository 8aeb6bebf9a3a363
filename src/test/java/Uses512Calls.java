import java.util.List;

/** An object is used for 512 calls after it has been made: the last of them is answered as the first would be. */
public final class Uses512Calls extends Checks {
    private static final int CALLS = 512;

    public static void main(String[] args) {
        runAll(Uses512Calls.class);
    }

    private static void mixedCalls() {
        List<String> rows = MIXED_CALLS.lines().toList();
        due("the count of rows", rows.size(), CALLS);
        NumberBench bench = new NumberBench();
        for (String row : rows) {
            play(bench, row);
        }
    }

    private static void theNextObjectAnswersTheSame() {
        mixedCalls();
        mixedCalls();
    }

    private static void twoObjectsTurnByTurn() {
        NumberBench one = new NumberBench();
        NumberBench other = new NumberBench();
        int call = 0;
        for (String row : MIXED_CALLS.lines().toList()) {
            call++;
            play(one, row);
            due("call " + call + " of the other", other.whole(call % 8, 0, call), d(call));
        }
    }

    private static void the512thCallOfEachKind() {
        the512thCall("keep 7 0x7ff8000000000000 = 0");
        the512thCall("reckon 0 0 6 7 = 0x408fe80000000000");
        the512thCall("reckon 3 0 7 6 = 0x3ff0080808080808");
        the512thCall("reckon 5 0 7 7 = 0x40369af589b35964");
        the512thCall("reckon 12 0 7 6 = 0x3ff0000000000000");
        the512thCall("whole 0 1 16777217 = 0x4170000000000000");
        the512thCall("cast 7 4 = -1");
        the512thCall("compare 6 7 = 11");
        the512thCall("horner 0 = 0x446ca91f5f3166c3");
        the512thCall("single 7 = 0x43ff8000");
        the512thCall("fromSingle 7 0x80000001 = 0xb6a0000000000000");
        the512thCall("sum 0 = 0x40afb80000000000");
        the512thCall("sum 1 = 0x40afb80000000000");
        the512thCall("sum 2 = 0x40afb80000000000");
    }

    private static void the512thCallRefused() {
        the512thCall("keep 8 0x3ff0000000000000 = -1");
        the512thCall("reckon 15 0 6 7 = 1");
        the512thCall("whole 0 2 1 = 1");
        the512thCall("cast 7 5 = 4611686018427387904");
        the512thCall("compare 6 8 = -1");
        the512thCall("horner 8 = 1");
        the512thCall("single -1 = 1");
        the512thCall("fromSingle 8 0x3f800000 = 1");
        the512thCall("sum 3 = 1");
    }

    /** The call after 511 others, which leave 504 to 511 in the stores. */
    private static void the512thCall(String row) {
        NumberBench bench = new NumberBench();
        for (int call = 1; call < CALLS; call++) {
            due("call " + call, bench.whole(call % 8, 0, call), d(call));
        }
        play(bench, row);
    }

    private static void refusedCallsLeaveTheRestAsTheyWere() {
        NumberBench bench = new NumberBench();
        for (int call = 1; call <= CALLS - 8; call++) {
            due("call " + call, bench.keep(8, d(1.0)), -1);
        }
        holds("504 refused calls", bench, new long[8]);
    }

    private static void aTenthAdded511Times() {
        tenths(0, 0x3fefffffffffffffL, 0x4023fffffffffff5L, 0x40498ccccccccd0dL);
    }

    private static void aTenthAdded511TimesInFloats() {
        tenths(8, 0x3ff0000020000000L, 0x4024000040000000L, 0x40498cc600000000L);
    }

    private static void tenths(int add, long ten, long hundred, long all) {
        NumberBench bench = new NumberBench();
        due("keep(1, 0.1)", bench.keep(1, d(0.1)), 0);
        long[] sums = new long[CALLS];
        for (int count = 1; count < CALLS; count++) {
            sums[count] = bench.reckon(add, 0, 0, 1);
        }
        due("the sum of 10 tenths", sums[10], ten);
        due("the sum of 100 tenths", sums[100], hundred);
        due("the sum of 511 tenths", sums[511], all);
    }

    /** Each step makes what differs about twice as large, so that one wrong bit changes all that follows. */
    private static void aFormulaThatForgivesNoBit() {
        chaos(1, 2, 0x3fea353f7ced9168L, 0x3febe29f13be070eL, 0x3fc58ad2ed419f81L, 0x3e2c5697);
    }

    private static void aFormulaThatForgivesNoBitInFloats() {
        chaos(9, 10, 0x3fea353fa0000000L, 0x3fd5c92b60000000L, 0x3fd6b9fc40000000L, 0x3eb5cfe2);
    }

    /** 169 times x = 3.9 * (x * (1 - x)), from 0.3. */
    private static void chaos(int minus, int times, long first, long fiftieth, long last, int lastAsFloat) {
        NumberBench bench = bench(d(1.0), d(3.9), d(0.3));
        long[] x = new long[170];
        for (int step = 1; step <= 169; step++) {
            bench.reckon(minus, 3, 0, 2);
            bench.reckon(times, 3, 2, 3);
            x[step] = bench.reckon(times, 2, 1, 3);
        }
        due("x after 1 step", x[1], first);
        due("x after 50 steps", x[50], fiftieth);
        due("x after 169 steps", x[169], last);
        due("call 511, single(2)", bench.single(2), lastAsFloat);
        due("call 512, compare(2, 0)", bench.compare(2, 0), 11);
    }

    private static void play(NumberBench bench, String row) {
        String[] words = row.split(" ");
        long[] arguments = new long[4];
        for (int i = 0; i < words.length - 3; i++) {
            arguments[i] = number(words[i + 1]);
        }
        due(row, answer(bench, words[0], arguments), number(words[words.length - 1]));
    }

    private static long number(String word) {
        if (!word.startsWith("0x")) {
            return Long.parseLong(word);
        }
        String digits = word.substring(2);
        return digits.length() == 8 ? Integer.parseUnsignedInt(digits, 16) : Long.parseUnsignedLong(digits, 16);
    }

    private static long answer(NumberBench bench, String name, long[] arguments) {
        int first = (int) arguments[0];
        int second = (int) arguments[1];
        switch (name) {
            case "keep":
                return bench.keep(first, arguments[1]);
            case "reckon":
                return bench.reckon(first, second, (int) arguments[2], (int) arguments[3]);
            case "whole":
                return bench.whole(first, second, arguments[2]);
            case "cast":
                return bench.cast(first, second);
            case "compare":
                return bench.compare(first, second);
            case "horner":
                return bench.horner(first);
            case "single":
                return bench.single(first);
            case "fromSingle":
                return bench.fromSingle(first, second);
            case "sum":
                return bench.sum(first);
            default:
                throw new IllegalArgumentException(name);
        }
    }

    /**
     * 512 calls on one object, each with its answer; BITS in base 16, eight digits for an int's, sixteen for a
     * long's. The answers were reckoned in exact fractions, outside Java, and each was rounded once.
     */
    private static final String MIXED_CALLS = """
        sum 0 = 0x0000000000000000
        keep 2 0x3d09b575b0000000 = 0
        keep 6 0xc3b000000000022d = 0
        fromSingle 0 0x00000000 = 0x0000000000000000
        fromSingle 2 0x8f7d9b78 = 0xb9efb36f00000000
        reckon 8 2 7 5 = 0x0000000000000000
        reckon 7 6 7 3 = 0x0000000000000000
        compare 7 3 = 22
        fromSingle 2 0x00800000 = 0x3810000000000000
        sum 2 = 0x3810000000000000
        whole 6 0 -127955 = 0xc0ff3d3000000000
        fromSingle 1 0xc8c69069 = 0xc118d20d20000000
        sum 2 = 0xc12050ac90000000
        cast 3 0 = 0
        keep 3 0xe5e138e26c4454b9 = 0
        cast 5 1 = 0
        keep 0 0xeb2b5693babb7fbb = 0
        keep 2 0xc1b62b47007ee4fa = 0
        whole 3 0 387535872984139 = 0x42f60763a0c044b0
        reckon 4 0 6 2 = 0xc0ff3d3000000000
        reckon 10 1 2 6 = 0x42c5a45080000000
        reckon 13 4 6 2 = 0xc1b62b47007ee4fa
        cast 2 0 = -371934976
        reckon 14 0 3 1 = 0x42f60763a0c044b0
        reckon 9 5 6 0 = 0xc2f60763a0000000
        reckon 8 3 0 3 = 0x43060763a0000000
        keep 7 0xc2636631b0000000 = 0
        cast 3 3 = 65535
        reckon 2147483647 6 2 7 = 1
        reckon 14 5 5 6 = 0xc0ff3d3000000000
        keep 0 0x3ff0000000000005 = 0
        reckon 5 7 5 1 = 0xc0ff3d3000000000
        reckon 9 6 1 7 = 0x42c5a45080000000
        compare 5 2 = 56
        horner 7 = 0x4922bcfa97fc2805
        compare 6 4 = 56
        reckon 9 6 1 1 = 0x0000000000000000
        keep 6 0x0000000000000001 = 0
        fromSingle 0 0x3cdaacf4 = 0x3f9b559e80000000
        fromSingle 2 0xff800000 = 0xfff0000000000000
        keep 4 0xbd7f287e76003a09 = 0
        cast 5 4 = 45
        compare 0 6 = 56
        single 0 = 0x3cdaacf4
        reckon 11 6 7 5 = 0x3ff0000000000000
        cast 1 1 = 47590938771456
        reckon 13 0 7 1 = 0xc0ff3d3000000000
        keep 6 0x800336f2f8fb9528 = 0
        reckon 12 3 2 16 = 1
        reckon 9 3 1 7 = 0x42c5a45080000000
        cast 7 2 = 3117
        reckon 7 1 5 6 = 0xc0ff3d3000000000
        reckon 13 2 7 7 = 0xc0ff3d3000000000
        reckon 7 4 2 4 = 0xc0ff3d3000000000
        keep 4 0x40d0f31000000000 = 0
        cast 1 1 = -127955
        reckon 13 1 3 3 = 0x42c5a45080000000
        reckon 1 6 3 1 = 0x0000000000000000
        reckon 13 2 7 3 = 0xc0ff3d3000000000
        fromSingle 1 0x3be04c42 = 0x3f7c098840000000
        single 2 = 0xc7f9e980
        horner 6 = 0xc0ff3d3000000000
        reckon 5 5 4 1 = 0x406077c7a63df436
        reckon 2 5 1 2 = 0xc08b5ed838066000
        reckon 0 2 6 9 = 1
        reckon 6 7 2 3 = 0x40ff3d3000000000
        fromSingle 2 0x7f800000 = 0x7ff0000000000000
        reckon 3 3 0 5 = 0x406242ed0e231239
        cast 2 0 = 2147483647
        reckon 2 1 6 0 = 0x8000000000000000
        reckon 9 1 7 7 = 0x0000000000000000
        cast 5 0 = -875
        keep 1 0x40bb6e999999999a = 0
        keep 3 0x3690000000000000 = 0
        keep 0 0x8bd0d9fb3319726c = 0
        fromSingle 5 0x7f7fffff = 0x47efffffe0000000
        cast 2 1 = 9223372036854775807
        reckon 12 1 7 7 = 0x0000000000000000
        whole 3 2 5503325227574 = 1
        cast 7 1 = 127955
        single 0 = 0x80000000
        cast 2 4 = -1
        fromSingle 1 0x007fffff = 0x380fffffc0000000
        sum 1 = 0x7ff0000000000000
        reckon 9 6 0 1 = 0xb80fffffc0000000
        compare 0 5 = 11
        reckon 9 3 2 7 = 0x7ff0000000000000
        keep 7 0x8014edd19d9dc69d = 0
        cast 4 4 = -52
        single 0 = 0x80000000
        horner 9 = 1
        keep 5 0x3ff0000000000003 = 0
        single -2147483648 = 1
        whole 2 1 8 = 0x4020000000000000
        fromSingle 7 0x7a92bb16 = 0x47525762c0000000
        keep 5 0xc350000000000002 = 0
        keep 3 0xc1264283bb6fac23 = 0
        horner 7 = 0x7b07dae597003a88
        reckon 6 3 1 0 = 0xb80fffffc0000000
        keep 6 0x80033b3645d490e1 = 0
        keep 5 0x8013b42f0c6fe7bf = 0
        keep 1 0x7ff0000000000000 = 0
        reckon 4 4 5 1 = 0x8013b42f0c6fe7bf
        whole 5 1 128358167 = 0x419e9a5c60000000
        reckon 0 6 0 0 = 0x8be0d9fb3319726c
        keep 6 0x42a0000000000000 = 0
        whole 16 0 11461114497576015 = 1
        fromSingle 1 0x3e1d8a1e = 0x3fc3b143c0000000
        reckon 6 2 2 5 = 0xc020000000000000
        keep 2 0xbff0000000000004 = 0
        sum 2 = 0x47525762c0000000
        reckon 2 2 2 6 = 0xc2a0000000000004
        whole 7 0 467471523 = 0x41bbdd0ca3000000
        compare 0 0 = 22
        single 3 = 0x807fffff
        whole 7 1 942630208 = 0x41cc17b2a0000000
        compare 6 7 = 56
        cast 6 2 = -1
        fromSingle 2 0x7f800000 = 0x7ff0000000000000
        reckon 12 4 6 4 = 0x7ff8000000000000
        reckon 14 1 7 3 = 0x41cc17b2a0000000
        reckon 0 4 0 2147483647 = 1
        whole 4 1 6304590674 = 0x41f77c86c0000000
        reckon 12 3 3 7 = 0xb80fffffc0000000
        reckon 9 2 2147483647 2 = 1
        cast 2 4 = -1
        keep 3 0x0002af7a9f04d707 = 0
        reckon 11 6 0 -1 = 1
        reckon 7 1 2 7 = 0x7ff0000000000000
        cast 7 4 = 64
        keep 1 0x3d36c77ef506ccfd = 0
        compare 0 5 = 11
        cast 0 3 = 0
        cast 4 1 = 6304590848
        sum 0 = 0x7ff0000000000000
        reckon 2 2 3 3 = 0x0000000000000000
        horner 2 = 0x8bd0d9fb3319726c
        reckon 14 1 0 6 = 0x42a0000000000000
        keep 3 0xc78b3807a0000000 = 0
        fromSingle 2 0xc9565be8 = 0xc12acb7d00000000
        keep 2 0x000e9202ad8686db = 0
        cast 5 2 = -26856
        keep -1 0x47f3d971c0000000 = -1
        reckon 2 2 2 1 = 0x02bd24055b0d0db6
        cast 7 -1 = 4611686018427387904
        keep 0 0x00062a8800768445 = 0
        horner 5 = 0x4d948dff9799991a
        single 4 = 0x4fbbe436
        horner 4 = 0x5009c8b8b3dac952
        reckon 7 6 6 6 = 0x42a0000000000000
        reckon 8 5 0 6 = 0x42a0000000000000
        reckon 13 7 4 3 = 0xc78b3807a0000000
        reckon 3 6 3 2 = 0xfff0000000000000
        keep 4 0x8017429c2954de9c = 0
        reckon 13 3 4 4 = 0x8017429c2954de9c
        keep 6 0xc874b3690e4f3036 = 0
        reckon 4 0 2 3 = 0x0002d7628b3dd4bc
        reckon 7 4 5 16 = 1
        reckon 10 6 4 2 = 0x8000000000000000
        compare 1 2 = 56
        keep 7 0xc400000000000069 = 0
        single 0 = 0x00000000
        compare 0 4 = 56
        reckon 2147483647 5 1 2 = 1
        reckon 14 6 0 1 = 0x42a0000000000000
        reckon 3 3 2 0 = 0x42c4830b67bf88cb
        keep 3 0x00161fe65485c9e4 = 0
        keep 2 0x800b837b1b043dbb = 0
        reckon 3 0 4 4 = 0x3ff0000000000000
        reckon 4 0 1 2 = 0x000b24ea067eaa92
        whole 6 1 -1599707861339329 = 0xc316bbb400000000
        sum 2 = 0xc400002cf7680069
        reckon 2 1 7 6 = 0x4726bbb400000095
        keep 2 0xc270000000000001 = 0
        reckon 3 7 0 0 = 0x3ff0000000000000
        keep 0 0xc000000000000006 = 0
        reckon 1 1 6 6 = 0x0000000000000000
        sum 2 = 0xc3169fb400000004
        keep 3 0x0016d911e5e58eff = 0
        reckon 14 2 4 1 = 0x0000000000000000
        keep 0 0x36a0000000000000 = 0
        reckon 9 8 5 3 = 1
        fromSingle 1 0x7f800000 = 0x7ff0000000000000
        single 4 = 0x80000000
        whole 5 0 -1 = 0xbff0000000000000
        reckon 10 0 6 3 = 0x8000000000000000
        horner 0 = 0x7ff8000000000000
        reckon 14 3 2 3 = 0x0016d911e5e58eff
        single 4 = 0x80000000
        reckon 14 0 2 0 = 0x0000000000000000
        keep 4 0x40259344ff8c75dc = 0
        cast 0 1 = 0
        single 7 = 0x3f800000
        single 3 = 0x00000000
        horner 7 = 0x7ff0000000000000
        cast 4 1 = 10
        cast 2 5 = 4611686018427387904
        whole 6 0 -3700130858 = 0xc1eb917085400000
        keep 5 0xc0e4efe000000000 = 0
        single 5 = 0xc7277f00
        keep 7 0xc249807b0c4d013a = 0
        single 7 = 0xd24c03d8
        compare 7 3 = 11
        reckon -1 1 6 7 = 1
        single 0 = 0x00000000
        reckon -1 5 1 5 = 1
        reckon 0 4 2 7 = 0xc249807b0c4d013a
        single 4 = 0xd24c03d8
        whole 7 1 7117362147187736 = 0x4339493400000000
        reckon 9 6 4 7 = 0xc339496700000000
        reckon 10 3 1 16 = 1
        reckon -1 4 3 6 = 1
        keep 4 0x059ea21632ef5169 = 0
        keep 4 0x801643d2adbcc74e = 0
        sum 2 = 0x7ff8000000000000
        single 3 = 0x00000000
        reckon 8 7 4 3 = 0x0000000000000000
        reckon 7 3 6 4 = 0xc339496700000000
        fromSingle 6 0x0cd81986 = 0x399b0330c0000000
        reckon 3 1 4 5 = 0x0000002207930a69
        reckon 3 4 7 5 = 0x8000000000000000
        reckon 7 6 6 3 = 0x399b0330c0000000
        whole 4 1 -735 = 0xc086f80000000000
        cast 0 2 = 0
        reckon 2 4 3 1 = 0x826ae3f9aff3110a
        keep 7 0x8b34e784df64db36 = 0
        keep -2147483648 0xc0b5ab6666666666 = -1
        keep 4 0x424a13e0f16d768f = 0
        keep 7 0xc9417a4f616ffac4 = 0
        compare 3 7 = 56
        keep 4 0x448a0fa81883a22d = 0
        reckon 1 6 3 3 = 0x0000000000000000
        single 3 = 0xd9ca4b38
        reckon 5 2 4 1 = 0x423ce0d940b1b059
        keep 5 0x000715b6d415bd0e = 0
        reckon 6 4 6 7 = 0x8000000000000000
        sum 1 = 0xfff0000000000000
        whole 6 0 0 = 0x0000000000000000
        fromSingle 1 0x16208f2d = 0x3ac411e5a0000000
        horner 3 = 0x604ae6c16904667a
        compare 5 7 = 56
        whole 2 0 -12927298394 = 0xc20814375ad00000
        reckon 2 0 2 4 = 0x0000000000000000
        compare 2 3 = 56
        keep 3 0xc0dcf79555555555 = 0
        compare 2 0 = 11
        reckon 2 3 7 6 = 0x8000000000000000
        reckon 0 3 0 0 = 0x0000000000000000
        keep 3 0x400c8eca704a2ee3 = 0
        reckon 4 7 1 6 = 0x7ff8000000000000
        whole 2 0 -31342526 = 0xc17de3fbe0000000
        whole 6 0 31 = 0x403f000000000000
        horner 0 = 0x7ff8000000000000
        reckon 11 5 7 4 = 0x7ff8000000000000
        compare 2 5 = 8
        compare 2 1 = 11
        reckon 12 7 1 4 = 0x7ff8000000000000
        single 0 = 0x00000000
        reckon 0 3 1 4 = 0x3ac411e5a0000000
        fromSingle 1 0xffffffff = 0x7ff8000000000000
        fromSingle 4 0x613a5613 = 0x44274ac260000000
        reckon 5 0 6 3 = 0x401645640568c1c4
        reckon 7 7 7 4 = 0x7ff8000000000000
        whole 6 1 -40123 = 0xc0e3976000000000
        single 1 = 0x7fc00000
        whole 0 1 1729276 = 0x413a62fc00000000
        keep 4 0x3fe0000000000003 = 0
        reckon 10 3 3 7 = 0x7ff8000000000000
        reckon 6 2 6 0 = 0x40e3976000000000
        reckon 0 3 4 0 = 0x413a62fc80000000
        fromSingle 9 0x3f800000 = 1
        keep 1 0x4360000000000114 = 0
        reckon 11 1 3 16 = 1
        reckon 2 1 5 7 = 0x7ff8000000000000
        reckon 2147483647 0 0 6 = 1
        reckon 2 3 6 6 = 0x41d7fd1c26400000
        whole 3 0 -237390271753964734 = 0xc38a5b098e283a66
        whole 7 0 -682427 = 0xc124d37600000000
        keep 4 0x00097239f30008bc = 0
        fromSingle 3 0xbde51c3f = 0xbfbca387e0000000
        cast 0 0 = 1729276
        reckon 10 5 4 6 = 0x8000000000000000
        keep 5 0x36a0000000000000 = 0
        reckon 11 7 4 0 = 0x0000000000000000
        cast 1 5 = 4611686018427387904
        compare 0 5 = 56
        keep 3 0xc2c0000000000002 = 0
        reckon 5 6 6 2 = 0xc0e3976000000000
        horner 7 = 0x7ff8000000000000
        fromSingle 3 0x00000001 = 0x36a0000000000000
        cast 0 2 = 25340
        sum 1 = 0x7ff8000000000000
        fromSingle 7 0xad4c793e = 0xbda98f27c0000000
        keep 7 0xffefffffffffffff = 0
        sum 0 = 0x7ff8000000000000
        reckon 2 1 6 2 = 0xc1d7fd1c26400000
        fromSingle 5 0x3a8f57a0 = 0x3f51eaf400000000
        reckon 3 4 6 5 = 0xc1817e911a1ba36e
        sum 1 = 0xfff0000000000000
        reckon 15 4 4 7 = 1
        keep 6 0x801e374f1729b8cd = 0
        whole 1 1 -59128711280246 = 0xc2cae37ce0000000
        reckon 1 1 2 2 = 0x0000000000000000
        reckon 5 7 3 5 = 0x3b46a09e667f3bcc
        horner 0 = 0xc6b02ccce071852e
        single 3 = 0x00000001
        keep 4 0x000e01df0cbd9f67 = 0
        reckon 10 2 3 3 = 0x0000000000000000
        reckon 7 5 0 5 = 0x413a62fc00000000
        whole 6 1 -454676518097 = 0xc25a773540000000
        reckon 5 4 3 7 = 0x3b46a09e667f3bcc
        whole 7 1 -61757764 = 0xc18d72ca20000000
        fromSingle 5 0x00c9f92d = 0x38193f25a0000000
        horner 6 = 0x527f2d9bd1c7748d
        horner 8 = 1
        keep 2 0x40a1bf6666666666 = 0
        fromSingle 0 0x361da9d2 = 0x3ec3b53a40000000
        fromSingle 3 0xc7fa208c = 0xc0ff441180000000
        fromSingle 0 0x27ae97a5 = 0x3cf5d2f4a0000000
        cast 5 0 = 0
        fromSingle 3 0xcecffbb9 = 0xc1d9ff7720000000
        keep 3 0xbd74e025a310e7eb = 0
        reckon 13 6 6 1 = 0xc25a773540000000
        keep 5 0x4370000000000003 = 0
        keep 6 0x3ff0000000000000 = 0
        single 4 = 0x1a3504f3
        reckon 12 3 4 7 = 0x3b46a09e60000000
        fromSingle 6 0x6f5da656 = 0x45ebb4cac0000000
        sum -1 = 1
        reckon 7 4 3 3 = 0x3b46a09e60000000
        reckon 12 6 7 2 = 0xc099034f40000000
        keep 4 0x629d6d6f93f963d8 = 0
        compare 5 2 = 56
        reckon 14 6 7 5 = 0x4370000000000003
        keep 0 0x0010000000000000 = 0
        fromSingle 3 0x3f800000 = 0x3ff0000000000000
        compare 7 1 = 11
        reckon 5 1 3 4 = 0x3ff0000000000000
        compare 4 1 = 56
        keep -1 0x3ff0000000000005 = -1
        cast 7 2 = -22852
        keep 2 0x40869e6666666666 = 0
        single 4 = 0x7f800000
        whole 6 0 -1 = 0xbff0000000000000
        reckon 0 2 5 7 = 0x436fffffff8a34de
        sum 2 = 0x629d6d6f93f963d8
        whole 5 1 -94 = 0xc057800000000000
        fromSingle 3 0xff800000 = 0xfff0000000000000
        cast 7 2 = -22852
        single 3 = 0xff800000
        cast 2 4 = -1
        reckon 8 2 2 0 = 0x4370000000000000
        keep 5 0x0003ae51ef6cdcba = 0
        horner 0 = 0xfff0000000000000
        single 4 = 0x7f800000
        reckon 3 0 5 7 = 0x8000000000fffe02
        cast 1 1 = 1
        reckon 6 0 0 7 = 0x0000000000fffe02
        fromSingle 0 0xe537f185 = 0xc4a6fe30a0000000
        reckon 11 1 0 4 = 0x8000000000000000
        single 4 = 0x7f800000
        compare 0 0 = 22
        compare 3 4 = 11
        reckon 6 0 6 3 = 0x3ff0000000000000
        reckon 11 2 1 7 = 0x0000000000000000
        keep 0 0x801b0cea9900d44e = 0
        whole 6 0 2630023 = 0x414410c380000000
        horner 6 = 0xfff0000000000000
        cast 1 3 = 0
        keep 1 0x40d35a9555555555 = 0
        reckon 6 6 6 1 = 0xc14410c380000000
        fromSingle 16 0x7f7fffff = 1
        reckon 9 9 2 3 = 1
        compare 6 1 = 11
        single 4 = 0x7f800000
        whole 4 1 11437225 = 0x4165d09520000000
        single 7 = 0xcc6b9651
        single 1 = 0x469ad4ab
        horner 0 = 0x7ff0000000000000
        whole 1 0 899 = 0x408c180000000000
        keep 7 0x0010000000000000 = 0
        whole 4 0 157342851212 = 0x4242512eb0460000
        keep 0 0x3e8074d680000000 = 0
        reckon 1 5 4 4 = 0x0000000000000000
        reckon 6 7 1 6 = 0xc08c180000000000
        reckon 1 7 6 7 = 0xc1440f0200000000
        keep 2 0x41b0000000000002 = 0
        reckon 7 7 1 2 = 0x408c180000000000
        reckon 2 7 5 5 = 0x0000000000000000
        keep 4 0xa78ac4b0aefb00d9 = 0
        fromSingle 4 0xb664af5b = 0xbecc95eb60000000
        reckon 14 3 4 6 = 0xbecc95eb60000000
        keep 1 0xc7e440abd0000000 = 0
        keep 7 0xc08068eb203632d4 = 0
        reckon 2 5 4 2 = 0xc08c95eb60000004
        cast 5 3 = 64622
        keep 5 0x3ddc12ae30000000 = 0
        keep 0 0x000caa5c466f71c5 = 0
        horner 3 = 0x46c217786db042f0
        keep 3 0x00000779f4ea1651 = 0
        whole 6 0 0 = 0x0000000000000000
        reckon 6 7 1 0 = 0x47e440abd0000000
        keep 4 0x86f14f7b266896ab = 0
        horner 1 = 0xff9a5c3bbc7ca481
        single 4 = 0x80000000
        reckon 13 4 6 7 = 0x0000000000000000
        horner 2 = 0x542440abd0000015
        cast 0 3 = 0
        reckon 8 3 2 3 = 0x41b0000000000000
        reckon 4 5 5 1 = 0x3ddc12ae30000000
        reckon 4 1 2 1 = 0x41b0000000000002
        reckon 3 0 3 6 = 0x7ff0000000000000
        cast 16 2 = 4611686018427387904
        reckon 3 2 5 5 = 0x3ff0000000000000
        keep 5 0x41db213950000000 = 0
        keep 1 0x41d92b963d370441 = 0
        reckon 6 1 5 7 = 0xc1db213950000000
        reckon 8 2 2 1 = 0xc1db213940000000
        reckon 7 4 3 6 = 0x41b0000000000000
        compare 3 7 = 11
        fromSingle 1 0x36b17a13 = 0x3ed62f4260000000
        reckon 8 1 7 3 = 0x47e440abc0000000
        whole 5 1 13768878402349983 = 0x4348755c60000000
        sum 0 = 0x7ff0000000000000
        fromSingle 5 0x035b8558 = 0x386b70ab00000000
        reckon 5 1 3 7 = 0x40d0000000000000
        keep 6 0xffffffffffffffff = 0
        whole 4 0 -153 = 0xc063200000000000
        reckon 3 5 3 1 = 0x40d0000000000000
        keep 3 0xffefffffffffffff = 0
        reckon 3 0 7 7 = 0x3ff0000000000000
        cast 6 2 = 0
        whole 5 0 794 = 0x4088d00000000000
        reckon 7 5 2 5 = 0xc1db213940000000
        single 1 = 0x46800000
        single 4 = 0xc3190000
        keep 6 0x8005ac3075a19fed = 0
        keep 7 0x0010000000000000 = 0
        keep 3 0x471f5f7150000000 = 0
        fromSingle 0 0x30e8b508 = 0x3e1d16a100000000
        sum 1 = 0x471f5f7140000000
        sum 0 = 0x471f5f7150000000
        reckon 2 4 3 6 = 0x87263ee8e02d8d25
        keep 1 0xbe2e9ca4e127b600 = 0
        reckon 6 2 5 4 = 0x41db213940000000
        sum 2 = 0x471f5f7150000000
        fromSingle 7 0x351306d4 = 0x3ea260da80000000
        reckon 5 7 7 7 = 0x3f48403bb5d0e155
        cast 4 0 = 0
        keep 5 0xc0dfb71555555555 = 0
        fromSingle -1 0xffffffff = 1
        single -1 = 1
        keep 3 0x3cdcd5782b10f692 = 0
        keep 1 0xc24000000000008d = 0
        fromSingle 5 0x973d3b4d = 0xbae7a769a0000000
        compare 2 2 = 22
        cast 0 4 = 0
        horner 3 = 0xbf2cd5699fc07790
        fromSingle 7 0xff800000 = 0xfff0000000000000
        reckon 5 7 6 2 = 0x8005ac3075a19fed
        reckon 4 1 6 0 = 0x8005ac3075a19fed
        keep 0 0x3fd0000000000006 = 0
        fromSingle 4 0x4af38255 = 0x415e704aa0000000
        keep 5 0x4010000000000000 = 0
        reckon 13 6 7 6 = 0x8005ac3075a19fed
        keep 1 0xc09e720000000000 = 0
        compare 5 2 = 11
        keep 1 0x43245446d60fb4b1 = 0
        reckon 12 0 2 0 = 0x0000000000000000
        reckon 13 5 6 6 = 0x8005ac3075a19fed
        keep 6 0x3e16ccd3981d191d = 0
        cast 2 2 = -6912
        reckon 14 4 6 4 = 0x415e704aa0000000
        whole 6 0 -69984453582044 = 0xc2cfd3433f6e6e00
        sum 1 = 0x4323d4fac0000000
        keep 6 0x0010000000000000 = 0
        single 1 = 0x5922a237
        single 4 = 0x4af38255
        compare 6 5 = 56
        reckon 7 0 7 6 = 0x8000000000000000
        keep 6 0x000fffffffffffff = 0
        fromSingle 5 0x9e33e1b5 = 0xbbc67c36a0000000
        horner 4 = 0x4718eb330dddf545
        keep 7 0xc0e1b1e000000000 = 0
        single 2147483647 = 1
        keep 6 0xd6ee6adf0f10853f = 0
        reckon 4 6 6 3 = 0xbccc8fb246b9f52c
        reckon 0 3 1 1 = 0x43345446d60fb4b1
        reckon 6 2 4 6 = 0xc15e704aa0000000
        reckon 12 1 5 4 = 0xbbc67c36a0000000
        sum 1 = 0x43345446e0000000
        keep 5 0x801ed5ab4abfea2e = 0
        cast 1 1 = 0
        compare 4 7 = 56
        reckon 8 0 5 5 = 0x8000000000000000
        reckon 10 7 3 6 = 0xc0122507e0000000
        reckon 7 4 4 6 = 0x415e704aa0000000
        reckon 4 3 5 1 = 0x801ed5ab4abfea2e
        reckon 5 1 4 3 = 0x40a611888367482a
        reckon 6 2 1 4 = 0xc0a611888367482a
        reckon 13 0 0 0 = 0x8000000000000000
        reckon 13 1 1 1 = 0x40a611888367482a
        reckon 13 2 2 2 = 0xc0a611888367482a
        reckon 13 3 3 3 = 0x801ed5ab4abfea2e
        reckon 13 4 4 4 = 0x415e704aa0000000
        reckon 13 5 5 5 = 0x801ed5ab4abfea2e
        reckon 13 6 6 6 = 0xbccc8fb246b9f52c
        reckon 13 7 7 7 = 0xc0122507e0000000
        sum 0 = 0x415e70497daf8200
        sum 1 = 0x415e704980000000
        sum 2 = 0x415e70497daf8200
        horner 3 = 0x80d543cad119df26
        """;
}
