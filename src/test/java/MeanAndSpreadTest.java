import java.math.BigInteger;

/** Promises 12 and 13: mean, spread; and what 'Terms' says of fractions. */
public final class MeanAndSpreadTest {
    private static final Due DUE = new Due();
    private static final Numbers NUMBERS = new Numbers(12);
    private static final int[] NO_PARTS = {-1, 2, Integer.MIN_VALUE, Integer.MAX_VALUE};
    private static final int[] OTHERS = {Made.WIDE, Made.REAL, Made.ORDERED, Made.OWN};

    public static void main(String[] args) {
        DUE.sentence("12 mean: The sum by how many ROWS it has", MeanAndSpreadTest::means);
        DUE.sentence("12 mean: in lowest terms", MeanAndSpreadTest::meanInLowestTerms);
        DUE.sentence("12 mean: what is below above 0", MeanAndSpreadTest::meanBelowZero);
        DUE.sentence("12 mean: 0 is 0 / 1", MeanAndSpreadTest::meanOfZero);
        DUE.sentence("12 mean: the least and greatest VALUES, 1 and 64 ROWS", MeanAndSpreadTest::meanAtTheEnds);
        DUE.sentence("12 mean: NOTHING: no such fold", MeanAndSpreadTest::meanOfNoFold);
        DUE.sentence("12 mean: NOTHING: no such KIND", MeanAndSpreadTest::meanOfOthers);
        DUE.sentence("12 mean: NOTHING: no such part", MeanAndSpreadTest::meanOfNoPart);
        DUE.sentence("12 mean: ArithmeticException: it has none", MeanAndSpreadTest::meanWithoutRows);
        DUE.sentence("12 mean: NOTHING before ArithmeticException", MeanAndSpreadTest::noPartOfMeanFirst);
        DUE.sentence("13 spread: squares of (VALUE less the mean), by how many ROWS", MeanAndSpreadTest::spreads);
        DUE.sentence("13 spread: in lowest terms", MeanAndSpreadTest::spreadInLowestTerms);
        DUE.sentence("13 spread: 0 is 0 / 1", MeanAndSpreadTest::spreadOfZero);
        DUE.sentence("13 spread: the least and greatest VALUES, 1 and 64 ROWS", MeanAndSpreadTest::spreadAtTheEnds);
        DUE.sentence("13 spread: NOTHING: no such fold", MeanAndSpreadTest::spreadOfNoFold);
        DUE.sentence("13 spread: NOTHING: no such KIND", MeanAndSpreadTest::spreadOfOthers);
        DUE.sentence("13 spread: NOTHING: no such part", MeanAndSpreadTest::spreadOfNoPart);
        DUE.sentence("13 spread: ArithmeticException as for mean()", MeanAndSpreadTest::spreadWithoutRows);
        DUE.sentence("13 spread: NOTHING before ArithmeticException", MeanAndSpreadTest::noPartOfSpreadFirst);
        DUE.sentence("12, 13 mean, spread: behind what is taken back and merged", MeanAndSpreadTest::takenBack);
        DUE.sentence("12, 13 mean, spread: any VALUES", MeanAndSpreadTest::anyValues);
        DUE.end();
    }

    private static ExactFolds of(long... values) {
        ExactFolds x = Made.with(Made.SPREAD);
        for (int i = 0; i < values.length; i++) {
            x.add(0, i % 3, values[i]);
        }
        return x;
    }

    private static ExactFolds times(int n, long v) {
        ExactFolds x = Made.with(Made.SPREAD);
        for (int i = 0; i < n; i++) {
            x.add(0, i, v);
        }
        return x;
    }

    private static void meanIs(ExactFolds x, long above, long below) {
        DUE.answer("mean, above", x.mean(0, 0), above);
        DUE.answer("mean, below", x.mean(0, 1), below);
    }

    private static void spreadIs(ExactFolds x, long above, long below) {
        DUE.answer("spread, above", x.spread(0, 0), above);
        DUE.answer("spread, below", x.spread(0, 1), below);
    }

    private static void means() {
        meanIs(of(7), 7, 1);
        meanIs(of(1, 2), 3, 2);
        meanIs(of(0, 0, 1), 1, 3);
        meanIs(of(1, 1, 2, 3), 7, 4);
        meanIs(of(5, 5, 5), 5, 1);
    }

    private static void meanInLowestTerms() {
        meanIs(of(1, 2, 3, 4), 5, 2);
        meanIs(of(2, 4), 3, 1);
        meanIs(of(0, 0, 0, 0, 0, 4), 2, 3);
        meanIs(of(-3, 0, 0, 0, 0, 0), -1, 2);
        meanIs(times(64, 3), 3, 1);
    }

    private static void meanBelowZero() {
        meanIs(of(-1, -2), -3, 2);
        meanIs(of(-7), -7, 1);
        meanIs(of(-1, 0, 0), -1, 3);
        meanIs(of(-2, 0, 0, 0), -1, 2);
    }

    private static void meanOfZero() {
        meanIs(of(0), 0, 1);
        meanIs(of(0, 0, 0), 0, 1);
        meanIs(of(-5, 5), 0, 1);
        meanIs(times(64, 0), 0, 1);
    }

    private static void meanAtTheEnds() {
        meanIs(of(1000000), 1000000, 1);
        meanIs(of(-1000000), -1000000, 1);
        meanIs(times(64, 1000000), 1000000, 1);
        meanIs(times(64, -1000000), -1000000, 1);
        ExactFolds x = times(63, -1000000);
        x.add(0, 0, -999999);
        meanIs(x, -63999999, 64);
    }

    private static void meanOfNoFold() {
        for (int f : Made.NO_FOLDS) {
            DUE.refused("mean(" + f + ", 0)", Made::allKinds, x -> x.mean(f, 0), Made.NOTHING);
            DUE.refused("mean(" + f + ", 1)", Made::allKinds, x -> x.mean(f, 1), Made.NOTHING);
        }
    }

    private static void meanOfOthers() {
        for (int f : OTHERS) {
            DUE.refused("mean(" + f + ", 0)", Made::allKinds, x -> x.mean(f, 0), Made.NOTHING);
            DUE.refused("mean(" + f + ", 1)", Made::allKinds, x -> x.mean(f, 1), Made.NOTHING);
            DUE.refused("without rows", Made::emptyOfAllKinds, x -> x.mean(f, 0), Made.NOTHING);
        }
    }

    private static void meanOfNoPart() {
        for (int part : NO_PARTS) {
            DUE.refused("part " + part, Made::allKinds, x -> x.mean(Made.SPREAD, part), Made.NOTHING);
        }
    }

    private static void meanWithoutRows() {
        for (int i = 0; i < 2; i++) {
            int part = i;
            DUE.refusedBy("part " + i, Made::emptyOfAllKinds, x -> x.mean(Made.SPREAD, part), ArithmeticException.class);
        }
        ExactFolds y = of(4);
        y.remove(0, 0, 4);
        DUE.thrown("none any more", () -> y.mean(0, 0), ArithmeticException.class);
    }

    private static void noPartOfMeanFirst() {
        for (int part : NO_PARTS) {
            DUE.refused("part " + part, Made::emptyOfAllKinds, x -> x.mean(Made.SPREAD, part), Made.NOTHING);
        }
    }

    private static void spreads() {
        spreadIs(of(1, 2), 1, 4);
        spreadIs(of(0, 0, 1), 2, 9);
        spreadIs(of(-1, -2), 1, 4);
        spreadIs(of(0, 1, 2, 3, 4), 2, 1);
        spreadIs(of(1, 1, 2, 3), 11, 16);
    }

    private static void spreadInLowestTerms() {
        spreadIs(of(-5, 5), 25, 1);
        spreadIs(of(1, 2, 3), 2, 3);
        spreadIs(of(1, 2, 3, 4), 5, 4);
        spreadIs(of(0, 0, 0, 4), 3, 1);
    }

    private static void spreadOfZero() {
        spreadIs(of(0), 0, 1);
        spreadIs(of(-7), 0, 1);
        spreadIs(of(5, 5, 5), 0, 1);
        spreadIs(times(64, -3), 0, 1);
    }

    private static void spreadAtTheEnds() {
        spreadIs(of(1000000), 0, 1);
        spreadIs(of(-1000000, 1000000), 1000000000000L, 1);
        spreadIs(of(1000000, -1000000, 1000000), 8000000000000L, 9);
        ExactFolds x = times(32, -1000000);
        for (int i = 0; i < 32; i++) {
            x.add(0, i, 1000000);
        }
        spreadIs(x, 1000000000000L, 1);
        spreadIs(times(64, 1000000), 0, 1);
        ExactFolds y = times(63, -1000000);
        y.add(0, 0, 1000000);
        spreadIs(y, 63L * 1000000000000L / 1024, 1);
        ExactFolds z = times(63, -1000000);
        z.add(0, 0, 999999);
        spreadIs(z, 63L * 1999999L * 1999999L, 4096);
    }

    private static void spreadOfNoFold() {
        for (int f : Made.NO_FOLDS) {
            DUE.refused("spread(" + f + ", 0)", Made::allKinds, x -> x.spread(f, 0), Made.NOTHING);
            DUE.refused("spread(" + f + ", 1)", Made::allKinds, x -> x.spread(f, 1), Made.NOTHING);
        }
    }

    private static void spreadOfOthers() {
        for (int f : OTHERS) {
            DUE.refused("spread(" + f + ", 0)", Made::allKinds, x -> x.spread(f, 0), Made.NOTHING);
            DUE.refused("spread(" + f + ", 1)", Made::allKinds, x -> x.spread(f, 1), Made.NOTHING);
            DUE.refused("without rows", Made::emptyOfAllKinds, x -> x.spread(f, 0), Made.NOTHING);
        }
    }

    private static void spreadOfNoPart() {
        for (int part : NO_PARTS) {
            DUE.refused("part " + part, Made::allKinds, x -> x.spread(Made.SPREAD, part), Made.NOTHING);
        }
    }

    private static void spreadWithoutRows() {
        for (int i = 0; i < 2; i++) {
            int part = i;
            DUE.refusedBy("part " + i, Made::emptyOfAllKinds, x -> x.spread(Made.SPREAD, part),
                ArithmeticException.class);
        }
        ExactFolds y = of(4);
        y.remove(0, 0, 4);
        DUE.thrown("none any more", () -> y.spread(0, 1), ArithmeticException.class);
    }

    private static void noPartOfSpreadFirst() {
        for (int part : NO_PARTS) {
            DUE.refused("part " + part, Made::emptyOfAllKinds, x -> x.spread(Made.SPREAD, part), Made.NOTHING);
        }
    }

    private static void takenBack() {
        ExactFolds x = of(1, 2, 1000000);
        x.remove(0, 2, 1000000);
        meanIs(x, 3, 2);
        spreadIs(x, 1, 4);
        x.fold(Made.SPREAD);
        x.add(1, 0, 3);
        x.merge(0, 1);
        meanIs(x, 2, 1);
        spreadIs(x, 2, 3);
        DUE.thrown("of what was merged", () -> x.mean(1, 0), ArithmeticException.class);
    }

    private static void anyValues() {
        for (int round = 0; round < 300; round++) {
            long[] values = new long[1 + NUMBERS.below(64)];
            BigInteger sum = BigInteger.ZERO;
            for (int i = 0; i < values.length; i++) {
                values[i] = round % 3 == 0 ? NUMBERS.below(7) - 3 : NUMBERS.below(2000001) - 1000000;
                values[i] = round % 5 == 0 ? (values[i] < 0 ? -1000000 : 1000000) : values[i];
                sum = sum.add(BigInteger.valueOf(values[i]));
            }
            BigInteger n = BigInteger.valueOf(values.length);
            BigInteger squares = BigInteger.ZERO;
            for (long v : values) {
                squares = squares.add(BigInteger.valueOf(v).multiply(n).subtract(sum).pow(2));
            }
            ExactFolds x = of(values);
            meanIs(x, lowest(sum, n), lowest(n, sum));
            spreadIs(x, lowest(squares, n.pow(3)), lowest(n.pow(3), squares));
        }
    }

    private static long lowest(BigInteger of, BigInteger other) {
        return of.divide(of.gcd(other)).longValueExact();
    }
}
