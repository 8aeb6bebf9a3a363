/** The document's terms: how each sign rounds, what is too large or too small, 0 with a sign, no number, ROOT. */
public final class Terms extends Checks {
    private static final int PLUS = 0;
    private static final int MINUS = 1;
    private static final int TIMES = 2;
    private static final int OVER = 3;
    private static final int REMAINDER = 4;
    private static final int ROOT = 5;
    private static final int TO_FLOAT = 7;
    private static final int FLOAT_PLUS = 8;
    private static final int FLOAT_MINUS = 9;
    private static final int FLOAT_TIMES = 10;
    private static final int FLOAT_OVER = 11;
    private static final int FLOAT_REMAINDER = 12;

    public static void main(String[] args) {
        runAll(Terms.class);
    }

    // The number nearest to what is meant exactly

    private static void sumIsTheNearest() {
        reckoned(PLUS, 0x3fb999999999999aL, 0x3fc999999999999aL, 0x3fd3333333333334L);
        reckoned(PLUS, d(1.0), 0x3c9fffffffffffffL, d(1.0));
        reckoned(PLUS, d(1.0), 0x3ca0000000000001L, 0x3ff0000000000001L);
        reckoned(PLUS, d(1.0), LEAST, d(1.0));
        reckoned(PLUS, LEAST, d(-1.0), d(-1.0));
    }

    private static void sumBetweenTwoHasLastBit0() {
        reckoned(PLUS, 0x4340000000000000L, d(1.0), 0x4340000000000000L);
        reckoned(PLUS, 0x4340000000000001L, d(1.0), 0x4340000000000002L);
        reckoned(PLUS, 0xc340000000000000L, d(-1.0), 0xc340000000000000L);
        reckoned(PLUS, 0xc340000000000001L, d(-1.0), 0xc340000000000002L);
        // The carry of all 1s goes into the exponent.
        reckoned(PLUS, 0x434fffffffffffffL, d(1.0), 0x4350000000000000L);
    }

    private static void differenceIsTheNearest() {
        reckoned(MINUS, 0x3fd3333333333333L, 0x3fb999999999999aL, 0x3fc9999999999999L);
        reckoned(MINUS, d(1.0), 0x3c8fffffffffffffL, d(1.0));
        reckoned(MINUS, d(1.0), 0x3c90000000000001L, 0x3fefffffffffffffL);
        reckoned(MINUS, d(1.0), LEAST, d(1.0));
        reckoned(MINUS, 0x3ff0000000000001L, d(1.0), 0x3cb0000000000000L);
    }

    private static void differenceBetweenTwoHasLastBit0() {
        reckoned(MINUS, d(1.0), 0x3c90000000000000L, d(1.0));
        reckoned(MINUS, d(1.0), 0x3ca8000000000000L, 0x3feffffffffffffeL);
        reckoned(MINUS, 0x4340000000000000L, d(0.5), 0x4340000000000000L);
        reckoned(MINUS, 0x4340000000000001L, d(1.0), 0x4340000000000000L);
        reckoned(MINUS, d(-1.0), 0xbc90000000000000L, d(-1.0));
    }

    private static void productIsTheNearest() {
        reckoned(TIMES, 0x3fb999999999999aL, 0x3fb999999999999aL, 0x3f847ae147ae147cL);
        reckoned(TIMES, 0x3ff0000000000001L, 0x3ff0000000000001L, 0x3ff0000000000002L);
        reckoned(TIMES, 0x3fefffffffffffffL, 0x3fefffffffffffffL, 0x3feffffffffffffeL);
    }

    private static void productBetweenTwoHasLastBit0() {
        reckoned(TIMES, 0x3ff0000000000001L, d(1.5), 0x3ff8000000000002L);
        reckoned(TIMES, 0x3ff0000000000003L, d(1.5), 0x3ff8000000000004L);
        reckoned(TIMES, 0xbff0000000000001L, d(1.5), 0xbff8000000000002L);
        reckoned(TIMES, LEAST, d(0.5), 0L);
        reckoned(TIMES, 3L, d(0.5), 2L);
        reckoned(TIMES, 5L, d(0.5), 2L);
        reckoned(TIMES, 0x001fffffffffffffL, d(0.5), LEAST_NORMAL);
    }

    private static void quotientIsTheNearest() {
        reckoned(OVER, d(1.0), d(3.0), 0x3fd5555555555555L);
        reckoned(OVER, d(2.0), d(3.0), 0x3fe5555555555555L);
        reckoned(OVER, d(-1.0), d(10.0), 0xbfb999999999999aL);
        reckoned(OVER, d(1.0), 0x3ff0000000000001L, 0x3feffffffffffffeL);
        reckoned(OVER, d(1.0), 0x3fefffffffffffffL, 0x3ff0000000000001L);
    }

    private static void quotientBetweenTwoHasLastBit0() {
        reckoned(OVER, LEAST, d(2.0), 0L);
        reckoned(OVER, 3L, d(2.0), 2L);
        reckoned(OVER, 5L, d(2.0), 2L);
        reckoned(OVER, 7L, d(-2.0), 0x8000000000000004L);
        reckoned(OVER, 0x001fffffffffffffL, d(2.0), LEAST_NORMAL);
    }

    // % is exact, with the sign of the first

    private static void remainderIsExact() {
        reckoned(REMAINDER, d(5.5), d(2.0), d(1.5));
        reckoned(REMAINDER, d(1.0), 0x3fb999999999999aL, 0x3fb9999999999996L);
        reckoned(REMAINDER, GREATEST, 3L, 2L);
        reckoned(REMAINDER, 0x7fe0000000000000L, 7L, 1L);
        reckoned(REMAINDER, 0x7fd0000000000000L, 7L, 4L);
        reckoned(REMAINDER, 10L, 7L, 3L);
        reckoned(REMAINDER, LEAST_NORMAL, GREATEST_BELOW_NORMAL, LEAST);
        reckoned(REMAINDER, GREATEST, 0x7feffffffffffffeL, 0x7ca0000000000000L);
    }

    private static void remainderHasTheSignOfTheFirst() {
        reckoned(REMAINDER, d(7.0), d(-4.0), d(3.0));
        reckoned(REMAINDER, d(-7.0), d(4.0), d(-3.0));
        reckoned(REMAINDER, d(-7.0), d(-4.0), d(-3.0));
    }

    private static void remainderOf0HasTheSignOfTheFirst() {
        reckoned(REMAINDER, d(6.0), d(-2.0), 0L);
        reckoned(REMAINDER, d(-6.0), d(2.0), MINUS_ZERO);
        reckoned(REMAINDER, 0L, d(-2.0), 0L);
        reckoned(REMAINDER, MINUS_ZERO, d(2.0), MINUS_ZERO);
        reckoned(REMAINDER, GREATEST, LEAST, 0L);
        reckoned(REMAINDER, MINUS_GREATEST, LEAST, MINUS_ZERO);
    }

    private static void remainderByItsEqualIs0() {
        reckoned(REMAINDER, d(3.0), d(3.0), 0L);
        reckoned(REMAINDER, d(3.0), d(-3.0), 0L);
        reckoned(REMAINDER, d(-3.0), d(3.0), MINUS_ZERO);
        reckoned(REMAINDER, LEAST, MINUS_LEAST, 0L);
        reckoned(REMAINDER, MINUS_GREATEST, GREATEST, MINUS_ZERO);
        reckoned(FLOAT_REMAINDER, d(3.0), d(-3.0), 0L);
        // As doubles the first is the less, as floats both are 1.
        reckoned(FLOAT_REMAINDER, d(-1.0), 0x3ff0000000000001L, MINUS_ZERO);
    }

    private static void remainderByAGreaterIsTheFirst() {
        reckoned(REMAINDER, d(1.5), d(2.0), d(1.5));
        reckoned(REMAINDER, d(-1.5), INFINITE, d(-1.5));
        reckoned(REMAINDER, GREATEST, MINUS_INFINITE, GREATEST);
        reckoned(REMAINDER, MINUS_ZERO, INFINITE, MINUS_ZERO);
        reckoned(REMAINDER, LEAST, GREATEST, LEAST);
    }

    // Too large and too small

    private static void tooLargeIsInfinite() {
        reckoned(PLUS, GREATEST, GREATEST, INFINITE);
        reckoned(PLUS, GREATEST, 0x7c90000000000000L, INFINITE);
        reckoned(MINUS, MINUS_GREATEST, 0x7c90000000000000L, MINUS_INFINITE);
        reckoned(TIMES, GREATEST, d(-2.0), MINUS_INFINITE);
        reckoned(TIMES, GREATEST, 0x3ff0000000000001L, INFINITE);
        reckoned(OVER, GREATEST, 0x3fefffffffffffffL, INFINITE);
        reckoned(OVER, d(-1.0), LEAST, MINUS_INFINITE);
    }

    private static void theGreatestIsNotYetTooLarge() {
        reckoned(PLUS, GREATEST, 0x7c8fffffffffffffL, GREATEST);
        reckoned(MINUS, MINUS_GREATEST, 0x7c8fffffffffffffL, MINUS_GREATEST);
        reckoned(TIMES, 0x7fdfffffffffffffL, d(2.0), GREATEST);
        reckoned(OVER, GREATEST, d(-1.0), MINUS_GREATEST);
        reckoned(OVER, 0x7fdfffffffffffffL, d(0.5), GREATEST);
    }

    private static void tooSmallIs0WithTheSign() {
        reckoned(TIMES, LEAST, LEAST, 0L);
        reckoned(TIMES, LEAST, MINUS_LEAST, MINUS_ZERO);
        reckoned(TIMES, LEAST, d(-0.5), MINUS_ZERO);
        reckoned(OVER, LEAST, GREATEST, 0L);
        reckoned(OVER, MINUS_LEAST, GREATEST, MINUS_ZERO);
        reckoned(OVER, MINUS_LEAST, d(2.0), MINUS_ZERO);
    }

    private static void howeverMuchTooSmallIs0() {
        for (long exponent = 0; exponent < 0x3feL; exponent++) {
            reckoned(TIMES, LEAST, exponent << 52, 0L);
            reckoned(TIMES, LEAST, exponent << 52 | MINUS_ZERO, MINUS_ZERO);
        }
        for (long exponent = 0x401L; exponent < 0x7ffL; exponent++) {
            reckoned(OVER, LEAST, exponent << 52, 0L);
        }
        for (long exponent = 0; exponent < 0x369L; exponent++) {
            reckoned(TO_FLOAT, exponent << 52 | 0xfffffffffffffL, 0L, 0L);
        }
    }

    private static void theLeastIsNotYetTooSmall() {
        reckoned(TIMES, LEAST, 0x3fe0000000000001L, LEAST);
        reckoned(TIMES, LEAST, d(-0.75), MINUS_LEAST);
        reckoned(OVER, LEAST, 0x3fffffffffffffffL, LEAST);
        reckoned(OVER, LEAST, LEAST, d(1.0));
    }

    private static void belowAllThatIsNormal() {
        reckoned(PLUS, LEAST, LEAST, 2L);
        reckoned(PLUS, GREATEST_BELOW_NORMAL, LEAST, LEAST_NORMAL);
        reckoned(MINUS, LEAST_NORMAL, LEAST, GREATEST_BELOW_NORMAL);
        reckoned(MINUS, 0x0010000000000001L, LEAST_NORMAL, LEAST);
        reckoned(TIMES, LEAST_NORMAL, d(0.5), 0x0008000000000000L);
        reckoned(TIMES, 0x0008000000000000L, d(2.0), LEAST_NORMAL);
        reckoned(TIMES, LEAST, 0x4330000000000000L, LEAST_NORMAL);
        reckoned(OVER, LEAST_NORMAL, 0x4330000000000000L, LEAST);
        reckoned(OVER, LEAST_NORMAL, LEAST, 0x4330000000000000L);
    }

    // 0 with a sign

    private static void sumsOf0() {
        reckoned(PLUS, 0L, MINUS_ZERO, 0L);
        reckoned(PLUS, MINUS_ZERO, 0L, 0L);
        reckoned(PLUS, MINUS_ZERO, MINUS_ZERO, MINUS_ZERO);
        reckoned(MINUS, 0L, 0L, 0L);
        reckoned(MINUS, MINUS_ZERO, 0L, MINUS_ZERO);
        reckoned(MINUS, 0L, MINUS_ZERO, 0L);
        reckoned(MINUS, MINUS_ZERO, MINUS_ZERO, 0L);
        reckoned(PLUS, MINUS_ZERO, MINUS_LEAST, MINUS_LEAST);
    }

    private static void sumsThatCancelOutAre0WithoutASign() {
        reckoned(PLUS, d(5.0), d(-5.0), 0L);
        reckoned(PLUS, d(-5.0), d(5.0), 0L);
        reckoned(MINUS, MINUS_LEAST, MINUS_LEAST, 0L);
        reckoned(MINUS, MINUS_GREATEST, MINUS_GREATEST, 0L);
    }

    private static void productsAndQuotientsOf0() {
        reckoned(TIMES, 0L, d(-3.0), MINUS_ZERO);
        reckoned(TIMES, MINUS_ZERO, d(-3.0), 0L);
        reckoned(TIMES, MINUS_ZERO, MINUS_ZERO, 0L);
        reckoned(OVER, 0L, d(-3.0), MINUS_ZERO);
        reckoned(OVER, MINUS_ZERO, d(-3.0), 0L);
        reckoned(OVER, d(3.0), INFINITE, 0L);
        reckoned(OVER, d(3.0), MINUS_INFINITE, MINUS_ZERO);
    }

    private static void dividedBy0IsInfinite() {
        reckoned(OVER, d(1.0), 0L, INFINITE);
        reckoned(OVER, d(1.0), MINUS_ZERO, MINUS_INFINITE);
        reckoned(OVER, MINUS_LEAST, 0L, MINUS_INFINITE);
        reckoned(OVER, MINUS_INFINITE, MINUS_ZERO, INFINITE);
    }

    private static void infiniteOnes() {
        reckoned(PLUS, INFINITE, INFINITE, INFINITE);
        reckoned(PLUS, MINUS_GREATEST, INFINITE, INFINITE);
        reckoned(MINUS, INFINITE, MINUS_INFINITE, INFINITE);
        reckoned(MINUS, GREATEST, INFINITE, MINUS_INFINITE);
        reckoned(TIMES, INFINITE, MINUS_LEAST, MINUS_INFINITE);
        reckoned(TIMES, MINUS_INFINITE, MINUS_INFINITE, INFINITE);
        reckoned(OVER, INFINITE, MINUS_GREATEST, MINUS_INFINITE);
    }

    // No number

    private static void noNumberIsMade() {
        reckoned(PLUS, INFINITE, MINUS_INFINITE, NO_NUMBER);
        reckoned(PLUS, MINUS_INFINITE, INFINITE, NO_NUMBER);
        reckoned(MINUS, INFINITE, INFINITE, NO_NUMBER);
        reckoned(MINUS, MINUS_INFINITE, MINUS_INFINITE, NO_NUMBER);
        reckoned(TIMES, 0L, INFINITE, NO_NUMBER);
        reckoned(TIMES, MINUS_INFINITE, MINUS_ZERO, NO_NUMBER);
        reckoned(OVER, 0L, MINUS_ZERO, NO_NUMBER);
        reckoned(OVER, INFINITE, MINUS_INFINITE, NO_NUMBER);
        reckoned(REMAINDER, d(2.0), 0L, NO_NUMBER);
        reckoned(REMAINDER, 0L, MINUS_ZERO, NO_NUMBER);
        reckoned(REMAINDER, INFINITE, d(2.0), NO_NUMBER);
        reckoned(REMAINDER, MINUS_INFINITE, INFINITE, NO_NUMBER);
    }

    private static void noNumberIsMadeOfFloats() {
        reckoned(FLOAT_PLUS, INFINITE, MINUS_INFINITE, NO_NUMBER);
        reckoned(FLOAT_MINUS, INFINITE, GREATEST, NO_NUMBER);
        reckoned(FLOAT_TIMES, LEAST, INFINITE, NO_NUMBER);
        reckoned(FLOAT_OVER, LEAST, MINUS_LEAST, NO_NUMBER);
        reckoned(FLOAT_OVER, GREATEST, INFINITE, NO_NUMBER);
        reckoned(FLOAT_REMAINDER, d(2.0), LEAST, NO_NUMBER);
        reckoned(FLOAT_REMAINDER, GREATEST, d(2.0), NO_NUMBER);
    }

    private static void noNumberStaysNone() {
        for (int op = 0; op <= 14; op++) {
            for (long none : NO_NUMBERS) {
                reckoned(op, none, d(2.0), NO_NUMBER);
            }
        }
    }

    private static void noNumberAsTheSecondMakesNone() {
        for (int op : new int[] {0, 1, 2, 3, 4, 8, 9, 10, 11, 12, 13, 14}) {
            for (long first : new long[] {d(2.0), 0L, INFINITE, MINUS_INFINITE, -1L}) {
                reckoned(op, first, 0xfff0000000000001L, NO_NUMBER);
            }
        }
    }

    private static void noNumberAsTheSecondIsNotLookedAt() {
        reckoned(ROOT, d(4.0), NO_NUMBER, d(2.0));
        reckoned(6, d(4.0), NO_NUMBER, d(-4.0));
        reckoned(TO_FLOAT, d(4.0), NO_NUMBER, d(4.0));
    }

    // (f), and signs between two floats

    private static void nearestFloat() {
        reckoned(TO_FLOAT, 0x3fb999999999999aL, 0L, 0x3fb99999a0000000L);
        reckoned(TO_FLOAT, 0x3ff000000fffffffL, 0L, d(1.0));
        reckoned(TO_FLOAT, 0x3ff0000010000001L, 0L, 0x3ff0000020000000L);
        reckoned(TO_FLOAT, 0xbff0000010000001L, 0L, 0xbff0000020000000L);
    }

    private static void floatBetweenTwoHasLastBit0() {
        reckoned(TO_FLOAT, 0x3ff0000010000000L, 0L, d(1.0));
        reckoned(TO_FLOAT, 0x3ff0000030000000L, 0L, 0x3ff0000040000000L);
        reckoned(TO_FLOAT, 0xbff0000030000000L, 0L, 0xbff0000040000000L);
        reckoned(TO_FLOAT, 0x3ffffffff0000000L, 0L, d(2.0));
    }

    private static void floatThatIsTooLargeIsInfinite() {
        reckoned(TO_FLOAT, 0x47effffff0000000L, 0L, INFINITE);
        reckoned(TO_FLOAT, 0xc7effffff0000000L, 0L, MINUS_INFINITE);
        reckoned(TO_FLOAT, 0x47f0000000000000L, 0L, INFINITE);
        reckoned(TO_FLOAT, MINUS_GREATEST, 0L, MINUS_INFINITE);
        reckoned(TO_FLOAT, MINUS_INFINITE, 0L, MINUS_INFINITE);
    }

    private static void greatestFloatIsNotYetTooLarge() {
        reckoned(TO_FLOAT, 0x47efffffefffffffL, 0L, GREATEST_FLOAT);
        reckoned(TO_FLOAT, 0xc7efffffefffffffL, 0L, MINUS_GREATEST_FLOAT);
    }

    private static void floatThatIsTooSmallIs0WithTheSign() {
        reckoned(TO_FLOAT, 0x3690000000000000L, 0L, 0L);
        reckoned(TO_FLOAT, 0xb690000000000000L, 0L, MINUS_ZERO);
        reckoned(TO_FLOAT, LEAST, 0L, 0L);
        reckoned(TO_FLOAT, MINUS_LEAST, 0L, MINUS_ZERO);
        reckoned(TO_FLOAT, MINUS_ZERO, 0L, MINUS_ZERO);
    }

    private static void leastFloatIsNotYetTooSmall() {
        reckoned(TO_FLOAT, 0x3690000000000001L, 0L, LEAST_FLOAT);
        reckoned(TO_FLOAT, 0xb690000000000001L, 0L, MINUS_LEAST_FLOAT);
    }

    private static void floatBelowAllThatIsNormal() {
        reckoned(TO_FLOAT, 0x36a8000000000000L, 0L, 0x36b0000000000000L);
        reckoned(TO_FLOAT, 0x36b4000000000000L, 0L, 0x36b0000000000000L);
        reckoned(TO_FLOAT, 0x380fffffa0000000L, 0L, 0x380fffff80000000L);
        reckoned(TO_FLOAT, 0x380fffffdfffffffL, 0L, 0x380fffffc0000000L);
        reckoned(TO_FLOAT, 0x380fffffe0000000L, 0L, 0x3810000000000000L);
    }

    private static void floatsAreMadeBeforeTheyAreReckonedWith() {
        reckoned(FLOAT_PLUS, 0x3fb999999999999aL, 0x3fc999999999999aL, 0x3fd3333340000000L);
        reckoned(FLOAT_MINUS, 0x4170000010000000L, 0x4170000000000000L, 0L);
        reckoned(FLOAT_TIMES, GREATEST, LEAST_FLOAT, INFINITE);
        reckoned(FLOAT_OVER, d(1.0), LEAST, INFINITE);
        reckoned(FLOAT_REMAINDER, d(2.0), GREATEST, d(2.0));
    }

    private static void sumOfFloatsBetweenTwoHasLastBit0() {
        reckoned(FLOAT_PLUS, 0x4170000000000000L, d(1.0), 0x4170000000000000L);
        reckoned(FLOAT_PLUS, 0x4170000020000000L, d(1.0), 0x4170000040000000L);
        reckoned(FLOAT_MINUS, d(1.0), 0x3e60000000000000L, d(1.0));
        reckoned(FLOAT_MINUS, d(1.0), 0x3e78000000000000L, 0x3fefffffc0000000L);
    }

    private static void productAndQuotientOfFloatsBetweenTwoHaveLastBit0() {
        reckoned(FLOAT_TIMES, 0x3ff0000020000000L, d(1.5), 0x3ff8000040000000L);
        reckoned(FLOAT_TIMES, 0x3ff0000060000000L, d(1.5), 0x3ff8000080000000L);
        reckoned(FLOAT_TIMES, 0x36b8000000000000L, d(0.5), 0x36b0000000000000L);
        reckoned(FLOAT_OVER, 0x36b8000000000000L, d(2.0), 0x36b0000000000000L);
        reckoned(FLOAT_OVER, 0x36c4000000000000L, d(2.0), 0x36b0000000000000L);
    }

    private static void floatsThatAreTooLargeOrTooSmall() {
        reckoned(FLOAT_PLUS, GREATEST_FLOAT, 0x4660000000000000L, INFINITE);
        reckoned(FLOAT_PLUS, GREATEST_FLOAT, 0x465fffffe0000000L, GREATEST_FLOAT);
        reckoned(FLOAT_MINUS, MINUS_GREATEST_FLOAT, GREATEST_FLOAT, MINUS_INFINITE);
        reckoned(FLOAT_TIMES, GREATEST_FLOAT, d(-2.0), MINUS_INFINITE);
        reckoned(FLOAT_TIMES, LEAST_FLOAT, d(-0.5), MINUS_ZERO);
        reckoned(FLOAT_TIMES, LEAST_FLOAT, d(-0.75), MINUS_LEAST_FLOAT);
        reckoned(FLOAT_OVER, d(1.0), LEAST_FLOAT, INFINITE);
        reckoned(FLOAT_OVER, MINUS_LEAST_FLOAT, d(2.0), MINUS_ZERO);
        reckoned(FLOAT_OVER, d(1.0), MINUS_ZERO, MINUS_INFINITE);
    }

    private static void remainderOfFloats() {
        reckoned(FLOAT_REMAINDER, d(1.0), 0x3fb999999999999aL, 0x3fb9999960000000L);
        reckoned(FLOAT_REMAINDER, d(-7.0), d(2.0), d(-1.0));
        reckoned(FLOAT_REMAINDER, d(-6.0), d(2.0), MINUS_ZERO);
        reckoned(FLOAT_REMAINDER, MINUS_GREATEST_FLOAT, LEAST_FLOAT, MINUS_ZERO);
        reckoned(FLOAT_REMAINDER, 0x47e0000000000000L, 0x36cc000000000000L, LEAST_FLOAT);
        reckoned(FLOAT_REMAINDER, d(-2.0), INFINITE, d(-2.0));
    }

    private static void sumsOfFloatsThatAre0() {
        reckoned(FLOAT_PLUS, MINUS_ZERO, MINUS_LEAST, MINUS_ZERO);
        reckoned(FLOAT_PLUS, d(-5.0), d(5.0), 0L);
        reckoned(FLOAT_MINUS, MINUS_ZERO, 0L, MINUS_ZERO);
        reckoned(FLOAT_MINUS, d(-5.0), d(-5.0), 0L);
    }

    // ROOT

    private static void rootOfWhatIsNotAbove0IsItself() {
        reckoned(ROOT, 0L, 0L, 0L);
        reckoned(ROOT, MINUS_ZERO, 0L, MINUS_ZERO);
        reckoned(ROOT, MINUS_LEAST, 0L, MINUS_LEAST);
        reckoned(ROOT, d(-4.0), 0L, d(-4.0));
        reckoned(ROOT, MINUS_GREATEST, 0L, MINUS_GREATEST);
        reckoned(ROOT, MINUS_INFINITE, 0L, MINUS_INFINITE);
    }

    private static void rootOfNoNumberIsNone() {
        reckoned(ROOT, 0x7ff0000000000001L, 0L, NO_NUMBER);
        reckoned(ROOT, 0xfff8000000000000L, 0L, NO_NUMBER);
    }

    private static void rootOfInfiniteIsItself() {
        reckoned(ROOT, INFINITE, 0L, INFINITE);
    }

    private static void rootByFiveSteps() {
        reckoned(ROOT, d(1.0), 0L, d(1.0));
        reckoned(ROOT, d(4.0), 0L, d(2.0));
        reckoned(ROOT, d(2.0), 0L, 0x3ff6a09e667f3bccL);
        reckoned(ROOT, 0x4000000000000001L, 0L, 0x3ff6a09e667f3bceL);
        reckoned(ROOT, LEAST_NORMAL, 0L, 0x2000000000000000L);
        reckoned(ROOT, GREATEST, 0L, 0x5ff0000000000000L);
        reckoned(ROOT, 0x7feffffffffffffeL, 0L, 0x5fefffffffffffffL);
    }

    private static void rootFromHalfTheBitsRoundedDown() {
        // Five steps are too few below all that is normal: there the first s still tells.
        reckoned(ROOT, LEAST, 0L, 0x1fa800000000038fL);
        reckoned(ROOT, 2L, 0L, 0x1fa800000000071aL);
        reckoned(ROOT, 3L, 0L, 0x1fa8000000000aa9L);
        reckoned(ROOT, GREATEST_BELOW_NORMAL, 0L, 0x1fffffffffffffffL);
    }
}
