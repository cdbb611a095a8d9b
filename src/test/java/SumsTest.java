import java.math.BigDecimal;
import java.math.BigInteger;

/** Promises 10 to 13: limb, real, mean, spread. */
public final class SumsTest {
    private static final Due DUE = new Due();
    private static final Numbers NUMBERS = new Numbers(11);
    private static final int THROWN = -77;

    public static void main(String[] args) {
        limbEdges();
        limbRefusals();
        limbAgainstBigIntegers();
        realTies();
        realEdges();
        realRefusals();
        realAgainstBigDecimals();
        meanAndSpread();
        meanAndSpreadRefusals();
        meanAndSpreadAgainstBigIntegers();
        DUE.end();
    }

    private static long limb(ExactFolds x, int fold, int k) {
        try {
            return x.limb(fold, k);
        } catch (ArrayIndexOutOfBoundsException e) {
            return ExactFolds.NOTHING;
        }
    }

    private static void sumIs(ExactFolds x, BigInteger sum) {
        for (int k = 0; k < 3; k++) {
            DUE.answer("limb " + k + " of " + sum, limb(x, 0, k), sum.shiftRight(32 * k).intValue());
        }
    }

    private static void limbEdges() {
        long[] edges = {Long.MAX_VALUE, Long.MIN_VALUE, -1, 1, 1L << 32, -(1L << 32), (1L << 32) - 1, 1L << 31};
        for (long v : edges) {
            ExactFolds x = new ExactFolds();
            x.fold(0);
            sumIs(x, BigInteger.ZERO);
            for (int i = 1; i <= 64; i++) {
                x.add(0, i, v);
                sumIs(x, BigInteger.valueOf(v).multiply(BigInteger.valueOf(i)));
            }
            x.remove(0, 1, v);
            sumIs(x, BigInteger.valueOf(v).multiply(BigInteger.valueOf(63)));
        }
    }

    private static void limbRefusals() {
        ExactFolds x = new ExactFolds();
        for (int kind = 0; kind < 5; kind++) {
            x.fold(kind);
        }
        x.add(2, 0, 7);
        x.add(3, 0, 7);
        x.add(4, 0, 3);
        x.addReal(1, 0, 7);
        for (int k : new int[] {-1, 3, Integer.MIN_VALUE, Integer.MAX_VALUE}) {
            DUE.answer("limb(0, " + k + ") throws", limb(x, 0, k), ExactFolds.NOTHING);
        }
        for (int fold : new int[] {-1, 1, 2, 3, 4, 5, 12, Integer.MAX_VALUE}) {
            for (int k = -1; k <= 3; k++) {
                DUE.answer("limb(" + fold + ", " + k + ")", limb(x, fold, k), 0);
            }
        }
    }

    private static void limbAgainstBigIntegers() {
        for (int round = 0; round < 200; round++) {
            ExactFolds x = new ExactFolds();
            x.fold(0);
            BigInteger sum = BigInteger.ZERO;
            int n = NUMBERS.below(65);
            for (int i = 0; i < n; i++) {
                long v = NUMBERS.next() >> NUMBERS.below(64);
                x.add(0, NUMBERS.below(1000001), v);
                sum = sum.add(BigInteger.valueOf(v));
            }
            sumIs(x, sum);
        }
    }

    private static void realIs(double want, double... values) {
        ExactFolds up = new ExactFolds();
        ExactFolds down = new ExactFolds();
        ExactFolds turned = new ExactFolds();
        up.fold(1);
        down.fold(1);
        turned.fold(1);
        for (int i = 0; i < values.length; i++) {
            up.addReal(0, i, Double.doubleToLongBits(values[i]));
            down.addReal(0, 0, Double.doubleToLongBits(values[values.length - 1 - i]));
            turned.addReal(0, 0, Double.doubleToLongBits(-values[i]));
        }
        long bits = Double.doubleToLongBits(want);
        DUE.answer("sum up to " + want, up.real(0), bits);
        DUE.answer("sum down to " + want, down.real(0), bits);
        DUE.answer("sum with signs turned, to " + -want, turned.real(0), want == 0 ? 0 : bits ^ Long.MIN_VALUE);
    }

    private static void realTies() {
        double ulp = Math.ulp(1.0);
        realIs(1.0, 1.0, ulp / 2);
        realIs(1.0 + 2 * ulp, 1.0 + ulp, ulp / 2);
        realIs(1.0 + ulp, 1.0, ulp / 2, Double.MIN_VALUE);
        realIs(1.0, 1.0, ulp / 2, -Double.MIN_VALUE);
        realIs(1.0 + ulp, 1.0 + ulp, ulp / 2, -Double.MIN_VALUE);
        realIs(1.0 + ulp, 1.0, ulp / 4, ulp / 4, ulp / 8);
        realIs(2.0, 2.0 - ulp, ulp / 2);
        realIs(2.0 - ulp, 2.0 - ulp, ulp / 4, ulp / 8);
        realIs(0.6, 0.1, 0.2, 0.3);
        realIs(1.0, 0.1, 0.1, 0.1, 0.1, 0.1, 0.1, 0.1, 0.1, 0.1, 0.1);
        realIs(9007199254740992.0, 9007199254740992.0, 1.0);
        realIs(9007199254740996.0, 9007199254740994.0, 1.0);
    }

    private static void realEdges() {
        double max = Double.MAX_VALUE;
        double half = Math.ulp(max) / 2;
        double infinite = Double.POSITIVE_INFINITY;
        realIs(0.0);
        realIs(0.0, -0.0);
        realIs(0.0, 1.5, -1.5);
        realIs(0.0, max, Double.MIN_VALUE, -max, -Double.MIN_VALUE);
        realIs(max, max);
        realIs(infinite, max, half);
        realIs(max, max, half, -Double.MIN_VALUE);
        realIs(max, max, half / 2);
        realIs(infinite, max, max);
        realIs(infinite, max, max, max, max, max);
        realIs(max, max, max, -max);
        realIs(Double.MIN_VALUE, max, Double.MIN_VALUE, -max);
        realIs(2 * Double.MIN_VALUE, Double.MIN_VALUE, Double.MIN_VALUE);
        realIs(Double.MIN_NORMAL, Double.MIN_NORMAL - Double.MIN_VALUE, Double.MIN_VALUE);
        realIs(Double.MIN_NORMAL - Double.MIN_VALUE, Double.MIN_NORMAL, -Double.MIN_VALUE);
        realIs(Double.MIN_NORMAL * 2, Double.MIN_NORMAL * 2 - Double.MIN_VALUE, Double.MIN_VALUE);
        double[] all = new double[64];
        java.util.Arrays.fill(all, max);
        realIs(infinite, all);
        java.util.Arrays.fill(all, 0, 32, -max);
        realIs(0.0, all);
        java.util.Arrays.fill(all, Double.MIN_VALUE);
        realIs(64 * Double.MIN_VALUE, all);
    }

    private static void realRefusals() {
        ExactFolds x = new ExactFolds();
        for (int kind = 0; kind < 5; kind++) {
            x.fold(kind);
            x.add(kind, 0, 3);
        }
        for (int fold : new int[] {-1, 0, 2, 3, 4, 5, 12, Integer.MIN_VALUE}) {
            DUE.answer("real(" + fold + ")", x.real(fold), 0);
        }
        x.addReal(1, 0, Double.doubleToLongBits(2.5));
        DUE.answer("real twice", x.real(1), Double.doubleToLongBits(2.5));
        DUE.answer("real twice", x.real(1), Double.doubleToLongBits(2.5));
        x.addReal(1, 0, 5);
        x.removeReal(1, 0, Double.doubleToLongBits(2.5));
        DUE.answer("nothing stays of an earlier sum", x.real(1), 5);
        x.removeReal(1, 0, 5);
        DUE.answer("nothing stays of an earlier sum", x.real(1), 0);
        x.addReal(1, 0, Double.doubleToLongBits(-Double.MAX_VALUE));
        DUE.answer("a sum below 0", x.real(1), Double.doubleToLongBits(-Double.MAX_VALUE));
        x.removeReal(1, 0, Double.doubleToLongBits(-Double.MAX_VALUE));
        DUE.answer("nothing stays of a sum below 0", x.real(1), 0);
    }

    private static void realAgainstBigDecimals() {
        for (int round = 0; round < 3000; round++) {
            ExactFolds x = new ExactFolds();
            x.fold(1);
            BigDecimal sum = BigDecimal.ZERO;
            int n = NUMBERS.below(round % 10 == 0 ? 65 : 6);
            for (int i = 0; i < n; i++) {
                long bits = NUMBERS.realBits(round % 7);
                x.addReal(0, NUMBERS.below(3), bits);
                sum = sum.add(new BigDecimal(Double.longBitsToDouble(bits)));
            }
            DUE.answer("real of round " + round, x.real(0), Double.doubleToLongBits(sum.doubleValue()));
        }
    }

    private static long mean(ExactFolds x, int fold, int part) {
        try {
            return x.mean(fold, part);
        } catch (ArithmeticException e) {
            return THROWN;
        }
    }

    private static long spread(ExactFolds x, int fold, int part) {
        try {
            return x.spread(fold, part);
        } catch (ArithmeticException e) {
            return THROWN;
        }
    }

    private static void fractionsAre(long[] want, long... values) {
        ExactFolds x = new ExactFolds();
        x.fold(2);
        for (long v : values) {
            x.add(0, 0, v);
        }
        DUE.answer("mean above", mean(x, 0, 0), want[0]);
        DUE.answer("mean below", mean(x, 0, 1), want[1]);
        DUE.answer("spread above", spread(x, 0, 0), want[2]);
        DUE.answer("spread below", spread(x, 0, 1), want[3]);
    }

    private static void meanAndSpread() {
        fractionsAre(new long[] {3, 2, 1, 4}, 1, 2);
        fractionsAre(new long[] {-3, 2, 1, 4}, -1, -2);
        fractionsAre(new long[] {0, 1, 0, 1}, 0);
        fractionsAre(new long[] {0, 1, 0, 1}, 0, 0, 0);
        fractionsAre(new long[] {0, 1, 25, 1}, -5, 5);
        fractionsAre(new long[] {5, 1, 0, 1}, 5, 5, 5);
        fractionsAre(new long[] {1, 3, 2, 9}, 0, 0, 1);
        fractionsAre(new long[] {-1000000, 1, 0, 1}, -1000000, -1000000);
        fractionsAre(new long[] {0, 1, 1000000000000L, 1}, -1000000, 1000000);
        fractionsAre(new long[] {1000000, 3, 8000000000000L, 9}, 1000000, -1000000, 1000000);
    }

    private static void meanAndSpreadRefusals() {
        ExactFolds x = new ExactFolds();
        for (int kind = 0; kind < 5; kind++) {
            x.fold(kind);
        }
        for (int part = 0; part < 2; part++) {
            DUE.answer("mean without rows throws", mean(x, 2, part), THROWN);
            DUE.answer("spread without rows throws", spread(x, 2, part), THROWN);
        }
        for (int round = 0; round < 2; round++) {
            for (int part : new int[] {-1, 2, Integer.MIN_VALUE, Integer.MAX_VALUE}) {
                DUE.answer("mean, part " + part, mean(x, 2, part), ExactFolds.NOTHING);
                DUE.answer("spread, part " + part, spread(x, 2, part), ExactFolds.NOTHING);
            }
            for (int fold : new int[] {-1, 0, 1, 3, 4, 5, 12}) {
                DUE.answer("mean of " + fold, mean(x, fold, 0), ExactFolds.NOTHING);
                DUE.answer("spread of " + fold, spread(x, fold, 1), ExactFolds.NOTHING);
                x.add(fold, 0, 1);
            }
            x.add(2, 0, 1);
        }
        x.remove(2, 0, 1);
        x.remove(2, 0, 1);
        DUE.answer("mean without rows again", mean(x, 2, 0), THROWN);
        DUE.answer("spread without rows again", spread(x, 2, 1), THROWN);
    }

    private static void meanAndSpreadAgainstBigIntegers() {
        for (int round = 0; round < 300; round++) {
            int n = 1 + NUMBERS.below(64);
            long[] values = new long[n];
            BigInteger sum = BigInteger.ZERO;
            BigInteger squares = BigInteger.ZERO;
            for (int i = 0; i < n; i++) {
                values[i] = round % 3 == 0 ? NUMBERS.below(7) - 3 : NUMBERS.below(2000001) - 1000000;
                values[i] = round % 5 == 0 ? (values[i] < 0 ? -1000000 : 1000000) : values[i];
                sum = sum.add(BigInteger.valueOf(values[i]));
            }
            BigInteger count = BigInteger.valueOf(n);
            for (long v : values) {
                squares = squares.add(BigInteger.valueOf(v).multiply(count).subtract(sum).pow(2));
            }
            long[] mean = lowest(sum, count);
            long[] spread = lowest(squares, count.pow(3));
            fractionsAre(new long[] {mean[0], mean[1], spread[0], spread[1]}, values);
        }
    }

    private static long[] lowest(BigInteger above, BigInteger below) {
        BigInteger divisor = above.gcd(below);
        return new long[] {above.divide(divisor).longValueExact(), below.divide(divisor).longValueExact()};
    }
}
