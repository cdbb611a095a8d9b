import java.math.BigDecimal;
import java.util.Arrays;

/** Promise 11: real. */
public final class RealTest {
    private static final Due DUE = new Due();
    private static final Numbers NUMBERS = new Numbers(11);
    private static final double MAX = Double.MAX_VALUE;
    private static final double MIN = Double.MIN_VALUE;
    private static final double NORMAL = Double.MIN_NORMAL;
    private static final double INFINITE = Double.POSITIVE_INFINITY;
    // Half of what the last bit of the greatest double is worth: from MAX + HALF on a sum is infinite.
    private static final double HALF = Math.ulp(MAX) / 2;
    private static final double ULP = Math.ulp(1.0);

    public static void main(String[] args) {
        DUE.sentence("11 real: the sum of a REAL fold", RealTest::plainSums);
        DUE.sentence("11 real: exactly, what cancels leaves the least", RealTest::cancels);
        DUE.sentence("11 real: rounded once", RealTest::roundedOnce);
        DUE.sentence("11 real: to the nearest double", RealTest::nearest);
        DUE.sentence("11 real: of two the one with the last bit 0", RealTest::ties);
        DUE.sentence("11 real: rounding up carries into the exponent", RealTest::carries);
        DUE.sentence("11 real: between the least double and the least normal one", RealTest::belowNormal);
        DUE.sentence("11 real: infinite beyond", RealTest::infinite);
        DUE.sentence("11 real: infinite beyond, from the middle behind the greatest double on", RealTest::almostInfinite);
        DUE.sentence("11 real: infinite beyond, yet not for what is taken back", RealTest::notForEver);
        DUE.sentence("11 real: 64 ROWS", RealTest::full);
        DUE.sentence("11 real: 0 for a sum of 0", RealTest::zero);
        DUE.sentence("11 real: nothing stays of an earlier sum", RealTest::nothingStays);
        DUE.sentence("11 real: any sums", RealTest::anySums);
        DUE.sentence("11 real: 0 if there is no such fold", RealTest::noFold);
        DUE.sentence("11 real: 0 of another KIND", RealTest::otherKind);
        DUE.end();
    }

    /** The sum of these, in both orders and with all signs turned. */
    private static void sumIs(double want, double... values) {
        ExactFolds x = Made.with(Made.REAL, Made.REAL, Made.REAL);
        for (int i = 0; i < values.length; i++) {
            x.addReal(0, i, Made.bits(values[i]));
            x.addReal(1, 0, Made.bits(values[values.length - 1 - i]));
            x.addReal(2, 0, Made.bits(-values[i]));
        }
        DUE.answer("sum up to " + want, x.real(0), Made.bits(want));
        DUE.answer("sum down to " + want, x.real(1), Made.bits(want));
        DUE.answer("sum with signs turned, to " + -want, x.real(2), want == 0 ? 0 : Made.bits(-want));
    }

    private static void plainSums() {
        sumIs(2.5, 2.5);
        sumIs(3.75, 2.5, 1.25);
        sumIs(1.25, 2.5, -1.25);
        sumIs(0.6, 0.1, 0.2, 0.3);
        sumIs(1.0, 0.1, 0.1, 0.1, 0.1, 0.1, 0.1, 0.1, 0.1, 0.1, 0.1);
        sumIs(MAX, MAX);
        sumIs(MIN, MIN);
    }

    private static void cancels() {
        sumIs(MIN, MAX, MIN, -MAX);
        sumIs(-MIN, MAX, -MIN, -MAX);
        sumIs(1.0, 1e300, 1.0, -1e300);
        sumIs(ULP, 1.0 + ULP, -1.0);
        sumIs(ULP / 2, 1.0, ULP / 2 - 1.0);
    }

    private static void roundedOnce() {
        // Rounded after each step these would lose what tips the last sum.
        sumIs(1.0 + ULP, 1.0, ULP / 4, ULP / 4, ULP / 8);
        sumIs(1.0 + ULP, 1.0, ULP / 2, MIN);
        sumIs(1.0, 1.0, ULP / 2, -MIN);
        sumIs(1.0 + ULP, 1.0 + ULP, ULP / 2, -MIN);
        sumIs(1.0 + 2 * ULP, 1.0 + ULP, ULP / 2, MIN);
        double[] small = new double[64];
        Arrays.fill(small, ULP / 64);
        small[0] = 1.0;
        sumIs(1.0 + ULP, small);
    }

    private static void nearest() {
        sumIs(1.0, 1.0, ULP / 4);
        sumIs(1.0 + ULP, 1.0, ULP / 4 * 3);
        sumIs(1.0 + ULP, 1.0 + ULP, ULP / 4);
        sumIs(1.0 + 2 * ULP, 1.0 + ULP, ULP / 4 * 3);
        sumIs(2.0 - ULP, 2.0 - ULP, ULP / 4, ULP / 8);
    }

    private static void ties() {
        sumIs(1.0, 1.0, ULP / 2);
        sumIs(1.0 + 2 * ULP, 1.0 + ULP, ULP / 2);
        sumIs(1.0 + 2 * ULP, 1.0 + 2 * ULP, ULP / 2);
        sumIs(9007199254740992.0, 9007199254740992.0, 1.0);
        sumIs(9007199254740996.0, 9007199254740994.0, 1.0);
        sumIs(NORMAL * 2, NORMAL * 2, MIN);
        sumIs(NORMAL * 2 + 4 * MIN, NORMAL * 2 + 2 * MIN, MIN);
    }

    private static void carries() {
        sumIs(2.0, 2.0 - ULP, ULP / 2);
        sumIs(4.0, 4.0 - 2 * ULP, ULP, MIN);
        sumIs(2 * NORMAL * 2, NORMAL * 4 - 2 * MIN, MIN);
    }

    private static void belowNormal() {
        sumIs(2 * MIN, MIN, MIN);
        sumIs(3 * MIN, MIN, MIN, MIN);
        sumIs(NORMAL, NORMAL - MIN, MIN);
        sumIs(NORMAL - MIN, NORMAL, -MIN);
        sumIs(NORMAL + MIN, NORMAL, MIN);
        sumIs(NORMAL * 2, NORMAL * 2 - MIN, MIN);
        sumIs(NORMAL * 2 - MIN, NORMAL - MIN, NORMAL);
    }

    private static void infinite() {
        sumIs(INFINITE, MAX, MAX);
        sumIs(INFINITE, MAX, MAX, MAX, MAX, MAX);
        sumIs(INFINITE, 0x1p1023, 0x1p1023);
        sumIs(INFINITE, 1.0e308, 0.8e308);
        sumIs(1.7e308, 1.0e308, 0.7e308);
    }

    private static void almostInfinite() {
        sumIs(INFINITE, MAX, HALF);
        sumIs(INFINITE, MAX, HALF, MIN);
        sumIs(MAX, MAX, HALF, -MIN);
        sumIs(MAX, MAX, HALF / 2);
        sumIs(MAX, MAX, MIN);
        sumIs(INFINITE, MAX, HALF / 2, HALF / 2);
    }

    private static void notForEver() {
        sumIs(MAX, MAX, MAX, -MAX);
        sumIs(0.0, MAX, MAX, -MAX, -MAX);
        ExactFolds x = Made.with(Made.REAL);
        x.addReal(0, 0, Made.bits(MAX));
        x.addReal(0, 1, Made.bits(MAX));
        DUE.answer("infinite", x.real(0), Made.INFINITE);
        x.removeReal(0, 0, Made.bits(MAX));
        DUE.answer("behind what is taken back", x.real(0), Made.bits(MAX));
    }

    private static void full() {
        double[] all = new double[64];
        Arrays.fill(all, MAX);
        sumIs(INFINITE, all);
        Arrays.fill(all, 0, 32, -MAX);
        sumIs(0.0, all);
        all[0] = MIN;
        sumIs(MAX, all);
        Arrays.fill(all, MIN);
        sumIs(64 * MIN, all);
        Arrays.fill(all, MAX / 64);
        sumIs(MAX, all);
    }

    private static void zero() {
        sumIs(0.0);
        sumIs(0.0, 0.0);
        sumIs(0.0, -0.0);
        sumIs(0.0, -0.0, -0.0);
        sumIs(0.0, 1.5, -1.5);
        sumIs(0.0, MIN, -MIN);
        sumIs(0.0, MAX, MIN, -MAX, -MIN);
    }

    private static void nothingStays() {
        ExactFolds x = Made.with(Made.REAL, Made.REAL);
        x.addReal(0, 0, Made.bits(-MAX));
        x.addReal(1, 0, 5);
        DUE.answer("a sum below 0", x.real(0), Made.bits(-MAX));
        DUE.answer("once more", x.real(0), Made.bits(-MAX));
        DUE.answer("another fold", x.real(1), 5);
        x.removeReal(0, 0, Made.bits(-MAX));
        DUE.answer("nothing left", x.real(0), 0);
        x.merge(0, 1);
        DUE.answer("merged", x.real(0), 5);
        DUE.answer("what was merged", x.real(1), 0);
    }

    private static void anySums() {
        for (int round = 0; round < 3000; round++) {
            ExactFolds x = Made.with(Made.REAL);
            BigDecimal sum = BigDecimal.ZERO;
            int n = NUMBERS.below(round % 10 == 0 ? 65 : 6);
            for (int i = 0; i < n; i++) {
                long bits = NUMBERS.realBits(round % 7);
                x.addReal(0, NUMBERS.below(3), bits);
                sum = sum.add(new BigDecimal(Double.longBitsToDouble(bits)));
            }
            DUE.answer("round " + round, x.real(0), Made.bits(sum.doubleValue()));
        }
    }

    private static void noFold() {
        for (int f : Made.NO_FOLDS) {
            DUE.refused("real(" + f + ")", Made::allKinds, x -> x.real(f), 0);
        }
    }

    private static void otherKind() {
        for (int f : Made.NOT_REAL) {
            DUE.refused("of kind " + f, Made::allKinds, x -> x.real(f), 0);
        }
        ExactFolds y = Made.with(Made.WIDE);
        y.add(0, 0, Made.ONE);
        DUE.answer("a WIDE row of bits", y.real(0), 0);
    }
}
