/** Objects that the tests begin with, each made by some 100 calls at most. */
final class Made {
    static final long NOTHING = ExactFolds.NOTHING;
    static final int WIDE = 0;
    static final int REAL = 1;
    static final int SPREAD = 2;
    static final int ORDERED = 3;
    static final int OWN = 4;
    static final int[] NOT_REAL = {WIDE, SPREAD, ORDERED, OWN};
    static final int LAST_TIME = 1000000;
    static final int[] WRONG_TIMES = {-1, 1000001, Integer.MIN_VALUE, Integer.MAX_VALUE};
    // Of an object that has the folds 0 to 4.
    static final int[] NO_FOLDS = {-1, 5, 11, 12, Integer.MIN_VALUE, Integer.MAX_VALUE};
    static final long ONE = bits(1.0);
    static final long MINUS_ZERO = bits(-0.0);
    static final long INFINITE = bits(Double.POSITIVE_INFINITY);

    private Made() {
    }

    static long bits(double d) {
        return Double.doubleToRawLongBits(d);
    }

    /** The folds 0, 1, .. of these kinds, without rows. */
    static ExactFolds with(int... kinds) {
        ExactFolds x = new ExactFolds();
        for (int kind : kinds) {
            x.fold(kind);
        }
        return x;
    }

    static ExactFolds emptyOfAllKinds() {
        return with(WIDE, REAL, SPREAD, ORDERED, OWN);
    }

    /** Fold k of kind k, each with two rows, and some of the tables set. */
    static ExactFolds allKinds() {
        ExactFolds x = emptyOfAllKinds();
        for (int f : NOT_REAL) {
            x.add(f, 7, 1);
            x.add(f, 0, 2);
        }
        x.addReal(REAL, 7, ONE);
        x.addReal(REAL, 0, 0);
        x.start(1);
        x.step(1, 2, 3);
        x.step(3, 1, 5);
        x.join(3, 5, 6);
        x.join(7, 7, 7);
        return x;
    }

    /** Fold 0 of this kind, with these rows, all different: the times 0 to n - 1. */
    static ExactFolds filled(int kind, int n) {
        ExactFolds x = with(kind);
        fill(x, 0, kind, n);
        return x;
    }

    static ExactFolds full(int kind) {
        return filled(kind, 64);
    }

    static void fill(ExactFolds x, int fold, int kind, int n) {
        for (int i = 0; i < n; i++) {
            if (kind == REAL) {
                x.addReal(fold, i, bits(i % 4));
            } else {
                x.add(fold, i, i % 4);
            }
        }
    }

    /** All twelve folds, of the kinds 0 to 4 in turn. */
    static ExactFolds twelve() {
        ExactFolds x = new ExactFolds();
        for (int i = 0; i < 12; i++) {
            x.fold(i % 5);
        }
        return x;
    }
}
