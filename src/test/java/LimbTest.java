import java.math.BigInteger;

/** Promise 10: limb. */
public final class LimbTest {
    private static final Due DUE = new Due();
    private static final Numbers NUMBERS = new Numbers(10);
    private static final int[] NO_LIMBS = {-1, 3, Integer.MIN_VALUE, Integer.MAX_VALUE};

    public static void main(String[] args) {
        DUE.sentence("10 limb: 32 bits of the sum, the lowest ones for k = 0", LimbTest::lowestFirst);
        DUE.sentence("10 limb: no ROWS, a sum of 0", LimbTest::noRows);
        DUE.sentence("10 limb: with its sign", LimbTest::sign);
        DUE.sentence("10 limb: a carry from limb to limb", LimbTest::carries);
        DUE.sentence("10 limb: beyond a long, up to 64 of the greatest and least", LimbTest::ends);
        DUE.sentence("10 limb: behind what is taken back and merged", LimbTest::takenBack);
        DUE.sentence("10 limb: a whole number of 96 bits, any", LimbTest::anySums);
        DUE.sentence("10 limb: 0 if there is no such fold", LimbTest::noFold);
        DUE.sentence("10 limb: 0 of another KIND", LimbTest::otherKind);
        DUE.sentence("10 limb: ArrayIndexOutOfBoundsException: k is not 0 to 2", LimbTest::noLimb);
        DUE.sentence("10 limb: (of a WIDE one), else 0 for any k", LimbTest::noLimbOfOthers);
        DUE.end();
    }

    private static void sumIs(ExactFolds x, BigInteger sum) {
        for (int k = 0; k < 3; k++) {
            DUE.answer("limb " + k + " of " + sum, x.limb(0, k), sum.shiftRight(32 * k).intValue());
        }
    }

    private static void limbsAre(ExactFolds x, int low, int middle, int high) {
        DUE.answer("limb 0", x.limb(0, 0), low);
        DUE.answer("limb 1", x.limb(0, 1), middle);
        DUE.answer("limb 2", x.limb(0, 2), high);
    }

    private static ExactFolds of(long... values) {
        ExactFolds x = Made.with(Made.WIDE);
        for (long v : values) {
            x.add(0, 0, v);
        }
        return x;
    }

    private static void lowestFirst() {
        limbsAre(of(0x0000000700000005L), 5, 7, 0);
        limbsAre(of(0x7654321089ABCDEFL), 0x89ABCDEF, 0x76543210, 0);
        limbsAre(of(1L << 31), 0x80000000, 0, 0);
    }

    private static void noRows() {
        limbsAre(of(), 0, 0, 0);
        limbsAre(of(0), 0, 0, 0);
        limbsAre(of(5, -5), 0, 0, 0);
        limbsAre(of(Long.MIN_VALUE, Long.MAX_VALUE, 1), 0, 0, 0);
    }

    private static void sign() {
        limbsAre(of(-1), -1, -1, -1);
        limbsAre(of(Long.MIN_VALUE), 0, 0x80000000, -1);
        limbsAre(of(-(1L << 32)), 0, -1, -1);
        limbsAre(of(Long.MAX_VALUE), -1, 0x7FFFFFFF, 0);
    }

    private static void carries() {
        limbsAre(of(0xFFFFFFFFL, 1), 0, 1, 0);
        limbsAre(of(1L << 31, 1L << 31), 0, 1, 0);
        limbsAre(of(Long.MAX_VALUE, 1), 0, 0x80000000, 0);
        limbsAre(of(Long.MAX_VALUE, Long.MAX_VALUE, 1), -1, -1, 0);
        limbsAre(of(Long.MAX_VALUE, Long.MAX_VALUE, 2), 0, 0, 1);
        limbsAre(of(1L << 32, -1), -1, 0, 0);
        limbsAre(of(Long.MIN_VALUE, -1), -1, 0x7FFFFFFF, -1);
        limbsAre(of(Long.MIN_VALUE, Long.MIN_VALUE), 0, 0, -1);
        limbsAre(of(Long.MIN_VALUE, Long.MIN_VALUE, -1), -1, -1, -2);
    }

    private static void ends() {
        long[] ends = {Long.MAX_VALUE, Long.MIN_VALUE, -1, 1, 1L << 32, -(1L << 32), (1L << 32) - 1, 1L << 31};
        for (long v : ends) {
            ExactFolds x = Made.with(Made.WIDE);
            for (int n = 1; n <= 64; n++) {
                x.add(0, n, v);
                sumIs(x, BigInteger.valueOf(v).multiply(BigInteger.valueOf(n)));
            }
        }
    }

    private static void takenBack() {
        ExactFolds x = of(Long.MAX_VALUE, Long.MAX_VALUE, Long.MAX_VALUE);
        x.remove(0, 0, Long.MAX_VALUE);
        limbsAre(x, -2, -1, 0);
        x.remove(0, 0, Long.MAX_VALUE);
        x.remove(0, 0, Long.MAX_VALUE);
        limbsAre(x, 0, 0, 0);
        x.fold(Made.WIDE);
        x.add(1, 0, Long.MIN_VALUE);
        x.add(0, 0, Long.MIN_VALUE);
        x.merge(0, 1);
        limbsAre(x, 0, 0, -1);
        DUE.answer("of what was merged", x.limb(1, 2), 0);
    }

    private static void anySums() {
        for (int round = 0; round < 200; round++) {
            ExactFolds x = Made.with(Made.WIDE);
            BigInteger sum = BigInteger.ZERO;
            int n = NUMBERS.below(65);
            for (int i = 0; i < n; i++) {
                long v = NUMBERS.next() >> NUMBERS.below(64);
                x.add(0, NUMBERS.below(1000001), v);
                sum = sum.add(BigInteger.valueOf(v));
            }
            sumIs(x, sum);
        }
    }

    private static void noFold() {
        for (int f : Made.NO_FOLDS) {
            for (int k = 0; k < 3; k++) {
                int asked = k;
                DUE.refused("limb(" + f + ", " + k + ")", Made::allKinds, x -> x.limb(f, asked), 0);
            }
        }
    }

    private static void otherKind() {
        for (int f = 1; f < 5; f++) {
            int asked = f;
            DUE.refused("of kind " + f, Made::allKinds, x -> x.limb(asked, 0), 0);
            DUE.refused("of a full one of kind " + f, () -> Made.full(asked), x -> x.limb(0, 0), 0);
        }
    }

    private static void noLimb() {
        Class<ArrayIndexOutOfBoundsException> thrown = ArrayIndexOutOfBoundsException.class;
        for (int k : NO_LIMBS) {
            DUE.refusedBy("limb(0, " + k + ")", Made::allKinds, x -> x.limb(0, k), thrown);
            DUE.refusedBy("without rows", Made::emptyOfAllKinds, x -> x.limb(0, k), thrown);
            DUE.refusedBy("with 64 rows", () -> Made.full(Made.WIDE), x -> x.limb(0, k), thrown);
        }
    }

    private static void noLimbOfOthers() {
        for (int k : NO_LIMBS) {
            for (int f : Made.NO_FOLDS) {
                DUE.refused("limb(" + f + ", " + k + ")", Made::allKinds, x -> x.limb(f, k), 0);
            }
            for (int f = 1; f < 5; f++) {
                int asked = f;
                DUE.refused("limb(" + f + ", " + k + ")", Made::allKinds, x -> x.limb(asked, k), 0);
            }
        }
    }
}
