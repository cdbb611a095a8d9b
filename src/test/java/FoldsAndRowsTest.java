/** Promises 1 to 9: a new object, fold, add, addReal, remove, removeReal, merge, same, rows. */
public final class FoldsAndRowsTest {
    private static final Due DUE = new Due();
    private static final int[] NO_FOLDS = {-1, 1, 12, Integer.MIN_VALUE, Integer.MAX_VALUE};
    private static final int[] WRONG_TIMES = {-1, 1000001, Integer.MIN_VALUE, Integer.MAX_VALUE};
    private static final long ONE = Double.doubleToLongBits(1.0);
    private static final long MINUS_ZERO = Double.doubleToLongBits(-0.0);

    public static void main(String[] args) {
        newObject();
        fold();
        add();
        addBounds();
        addReal();
        addRealBits();
        remove();
        removeReal();
        merge();
        mergeRefusals();
        same();
        rows();
        refusalOrder();
        DUE.end();
    }

    private static ExactFolds with(int... kinds) {
        ExactFolds x = new ExactFolds();
        for (int i = 0; i < kinds.length; i++) {
            DUE.answer("fold(" + kinds[i] + ")", x.fold(kinds[i]), i);
        }
        return x;
    }

    private static void newObject() {
        ExactFolds x = new ExactFolds();
        for (int i = 0; i < 12; i++) {
            DUE.answer("new: rows", x.rows(i), -1);
            DUE.answer("new: same", x.same(i, i), false);
        }
        DUE.answer("new: add", x.add(0, 0, 0), -1);
        DUE.answer("new: addReal", x.addReal(0, 0, 0), -1);
        DUE.answer("new: remove", x.remove(0, 0, 0), -1);
        DUE.answer("new: removeReal", x.removeReal(0, 0, 0), -1);
        DUE.answer("new: merge", x.merge(0, 1), -1);
        DUE.answer("new: limb", x.limb(0, 3), 0);
        DUE.answer("new: real", x.real(0), 0);
        DUE.answer("new: mean", x.mean(0, 0), ExactFolds.NOTHING);
        DUE.answer("new: spread", x.spread(0, 0), ExactFolds.NOTHING);
        DUE.answer("new: state", x.state(0), -1);
        ExactFolds y = with(0);
        DUE.answer("an object has its own folds", y.rows(0), 0);
        DUE.answer("an object has its own folds", x.rows(0), -1);
    }

    private static void fold() {
        ExactFolds x = new ExactFolds();
        for (int kind : new int[] {-1, 5, Integer.MIN_VALUE, Integer.MAX_VALUE}) {
            DUE.answer("fold(" + kind + ")", x.fold(kind), -2);
        }
        for (int i = 0; i < 12; i++) {
            DUE.answer("fold " + i, x.fold(i % 5), i);
            DUE.answer("rows of a new fold", x.rows(i), 0);
            DUE.answer("rows of none yet", x.rows(i + 1), -1);
        }
        DUE.answer("a 13th fold", x.fold(0), -4);
        DUE.answer("a 13th fold of no kind", x.fold(5), -2);
        DUE.answer("rows(12)", x.rows(12), -1);
    }

    private static void add() {
        for (int kind : new int[] {0, 2, 3, 4}) {
            ExactFolds x = with(kind);
            for (int i = 1; i <= 64; i++) {
                DUE.answer("add", x.add(0, 70 - i, i % 4), i);
            }
            DUE.answer("65th", x.add(0, 0, 0), -4);
            DUE.answer("65th, bad time", x.add(0, -1, 0), -2);
            DUE.answer("rows", x.rows(0), 64);
            DUE.answer("behind the last of 64", x.remove(0, 1000000, 3), -3);
            DUE.answer("64 with themselves", x.same(0, 0), true);
            DUE.answer("room again", x.remove(0, 69, 1), 63);
            DUE.answer("room again", x.add(0, 0, 0), 64);
        }
    }

    private static void addBounds() {
        ExactFolds x = with(0, 2, 3, 4, 1);
        long[] bounds = {0, 1000000L, 100000000000000000L};
        for (int f = 1; f <= 2; f++) {
            DUE.answer("greatest", x.add(f, 0, bounds[f]), 1);
            DUE.answer("least", x.add(f, 1000000, -bounds[f]), 2);
            for (long v : new long[] {bounds[f] + 1, -bounds[f] - 1, Long.MIN_VALUE, Long.MAX_VALUE}) {
                DUE.answer("outside " + v, x.add(f, 0, v), -2);
            }
        }
        DUE.answer("own 0", x.add(3, 0, 0), 1);
        DUE.answer("own 3", x.add(3, 0, 3), 2);
        for (long v : new long[] {-1, 4, Long.MIN_VALUE, Long.MAX_VALUE, 1L << 32}) {
            DUE.answer("own " + v, x.add(3, 0, v), -2);
        }
        DUE.answer("wide", x.add(0, 0, Long.MIN_VALUE), 1);
        DUE.answer("wide", x.add(0, 1000000, Long.MAX_VALUE), 2);
        for (int time : WRONG_TIMES) {
            for (int f = 0; f < 4; f++) {
                DUE.answer("time " + time, x.add(f, time, 0), -2);
            }
            DUE.answer("REAL before time", x.add(4, time, 0), -3);
        }
        for (int f = 0; f < 4; f++) {
            DUE.answer("refusals change nothing", x.rows(f), 2);
        }
        DUE.answer("add to REAL", x.add(4, 0, 0), -3);
        DUE.answer("refusals change nothing", x.rows(4), 0);
        DUE.answer("no fold", x.add(5, -1, 0), -1);
        DUE.answer("no fold", x.add(-1, 0, 0), -1);
    }

    private static void addReal() {
        ExactFolds x = with(1);
        for (int i = 1; i <= 64; i++) {
            DUE.answer("addReal", x.addReal(0, 1000000 - i, Double.doubleToLongBits(i)), i);
        }
        DUE.answer("65th", x.addReal(0, 0, 0), -4);
        DUE.answer("65th, no number", x.addReal(0, 0, Double.doubleToLongBits(Double.NaN)), -2);
        DUE.answer("65th, time", x.addReal(0, 1000001, 0), -2);
        ExactFolds y = with(0, 2, 3, 4);
        for (int f = 0; f < 4; f++) {
            DUE.answer("addReal to another kind", y.addReal(f, 0, 0), -3);
            DUE.answer("addReal to another kind, bad time", y.addReal(f, -1, 0), -3);
            DUE.answer("rows", y.rows(f), 0);
        }
        DUE.answer("no fold", y.addReal(4, 0, 0), -1);
        DUE.answer("no fold", y.addReal(-1, -1, -1), -1);
    }

    private static void addRealBits() {
        ExactFolds x = with(1);
        long infinite = Double.doubleToLongBits(Double.POSITIVE_INFINITY);
        long[] none = {infinite, infinite | Long.MIN_VALUE, infinite + 1, -1L, Long.MAX_VALUE, infinite | 1L << 51};
        for (long bits : none) {
            DUE.answer("addReal of " + Long.toHexString(bits), x.addReal(0, 0, bits), -2);
        }
        for (int time : WRONG_TIMES) {
            DUE.answer("time " + time, x.addReal(0, time, 0), -2);
        }
        DUE.answer("refusals change nothing", x.rows(0), 0);
        long[] finite = {infinite - 1, (infinite - 1) | Long.MIN_VALUE, 0, MINUS_ZERO, 1, MINUS_ZERO | 1, ONE};
        for (int i = 0; i < finite.length; i++) {
            DUE.answer("addReal of " + Long.toHexString(finite[i]), x.addReal(0, i % 2 * 1000000, finite[i]), i + 1);
        }
    }

    private static void remove() {
        ExactFolds x = with(0, 1, 3);
        x.add(0, 5, 7);
        x.add(0, 5, 7);
        x.add(0, 6, 7);
        x.add(0, 5, 8);
        DUE.answer("no such time", x.remove(0, 4, 7), -3);
        DUE.answer("no such value", x.remove(0, 6, 8), -3);
        DUE.answer("beyond all rows", x.remove(0, 7, 0), -3);
        DUE.answer("time out of bounds is no row", x.remove(0, -1, 7), -3);
        DUE.answer("time out of bounds is no row", x.remove(0, 1000001, 7), -3);
        DUE.answer("rows", x.rows(0), 4);
        DUE.answer("one of two goes", x.remove(0, 5, 7), 3);
        DUE.answer("the other goes", x.remove(0, 5, 7), 2);
        DUE.answer("none is left", x.remove(0, 5, 7), -3);
        DUE.answer("first left", x.item(0, 0), 8);
        DUE.answer("second left", x.item(0, 1), 7);
        DUE.answer("sum of what is left", x.limb(0, 0), 15);
        DUE.answer("REAL", x.remove(1, 0, 0), -3);
        x.addReal(1, 0, 0);
        DUE.answer("REAL with a row of these bits", x.remove(1, 0, 0), -3);
        DUE.answer("out of bounds is no row", x.remove(2, 0, Long.MAX_VALUE), -3);
        DUE.answer("no rows", x.remove(2, 0, 0), -3);
        DUE.answer("stale rows do not count", x.remove(0, 6, 7), 1);
        DUE.answer("stale rows do not count", x.remove(0, 6, 7), -3);
        DUE.answer("last row", x.remove(0, 5, 8), 0);
        for (int f : new int[] {-1, 3, 12}) {
            DUE.answer("no fold", x.remove(f, 0, 0), -1);
        }
    }

    private static void removeReal() {
        ExactFolds x = with(1, 0);
        x.addReal(0, 3, ONE);
        x.addReal(0, 3, MINUS_ZERO);
        x.addReal(0, 4, 0);
        DUE.answer("-0.0 was taken for 0.0", x.removeReal(0, 3, 0), 2);
        DUE.answer("-0.0 is taken for 0.0", x.removeReal(0, 4, MINUS_ZERO), 1);
        DUE.answer("no zero is left", x.removeReal(0, 3, MINUS_ZERO), -3);
        DUE.answer("another sign", x.removeReal(0, 3, ONE | MINUS_ZERO), -3);
        DUE.answer("another time", x.removeReal(0, 2, ONE), -3);
        DUE.answer("no number is no row", x.removeReal(0, 3, -1), -3);
        DUE.answer("time out of bounds is no row", x.removeReal(0, -1, ONE), -3);
        DUE.answer("refusals change nothing", x.real(0), ONE);
        DUE.answer("last row", x.removeReal(0, 3, ONE), 0);
        DUE.answer("sum", x.real(0), 0);
        x.add(1, 0, 0);
        DUE.answer("not REAL", x.removeReal(1, 0, 0), -3);
        for (int f : new int[] {-1, 2, 12}) {
            DUE.answer("no fold", x.removeReal(f, 0, 0), -1);
        }
    }

    private static void merge() {
        ExactFolds x = with(3, 3, 1, 1, 3);
        x.add(0, 5, 50);
        x.add(0, 1, 10);
        x.add(1, 3, 30);
        x.add(1, 5, 50);
        x.add(1, 0, 0);
        DUE.answer("merge", x.merge(0, 1), 5);
        DUE.answer("rows of a", x.rows(0), 5);
        DUE.answer("rows of b", x.rows(1), 0);
        long[] want = {0, 10, 30, 50, 50};
        for (int i = 0; i < want.length; i++) {
            DUE.answer("item " + i, x.item(0, i), want[i]);
        }
        DUE.answer("item of b", x.item(1, 0), ExactFolds.NOTHING);
        DUE.answer("merge without rows", x.merge(0, 1), 5);
        DUE.answer("merge into one without rows", x.merge(4, 0), 5);
        DUE.answer("b is a fold yet", x.add(0, 0, 1), 1);
        DUE.answer("a is not b's rows", x.rows(4), 5);
        DUE.answer("both without rows", x.merge(2, 3), 0);
        x.addReal(2, 0, ONE);
        x.addReal(3, 0, ONE);
        DUE.answer("REAL", x.merge(2, 3), 2);
        DUE.answer("sum of a", x.real(2), Double.doubleToLongBits(2.0));
        DUE.answer("sum of b", x.real(3), 0);
    }

    private static void mergeRefusals() {
        ExactFolds x = with(0, 0, 4);
        DUE.answer("a is b", x.merge(0, 0), -1);
        for (int f : new int[] {-1, 3, 12}) {
            DUE.answer("no a", x.merge(f, 0), -1);
            DUE.answer("no b", x.merge(0, f), -1);
            DUE.answer("neither", x.merge(f, f), -1);
        }
        DUE.answer("two kinds", x.merge(0, 2), -3);
        for (int i = 0; i < 64; i++) {
            x.add(0, i, i);
        }
        x.add(2, 0, 0);
        DUE.answer("two kinds before no room", x.merge(0, 2), -3);
        DUE.answer("64 and none", x.merge(0, 1), 64);
        x.add(1, 0, 0);
        DUE.answer("65", x.merge(0, 1), -4);
        DUE.answer("65", x.merge(1, 0), -4);
        DUE.answer("refusals change nothing", x.rows(0), 64);
        DUE.answer("refusals change nothing", x.rows(1), 1);
        x.remove(0, 63, 63);
        DUE.answer("63 and 1", x.merge(1, 0), 64);
        DUE.answer("b has none", x.rows(0), 0);
    }

    private static void same() {
        ExactFolds x = with(0, 0, 3, 1, 1);
        DUE.answer("two without rows", x.same(0, 1), true);
        DUE.answer("with itself", x.same(0, 0), true);
        DUE.answer("two kinds", x.same(0, 2), false);
        x.add(0, 1, 2);
        x.add(0, 3, 4);
        x.add(0, 1, -2);
        DUE.answer("one without rows", x.same(0, 1), false);
        DUE.answer("one without rows", x.same(1, 0), false);
        x.add(1, 1, -2);
        x.add(1, 3, 4);
        DUE.answer("a row less", x.same(0, 1), false);
        x.add(1, 1, 2);
        DUE.answer("another order", x.same(0, 1), true);
        x.add(0, 1, 2);
        x.add(1, 1, -2);
        DUE.answer("another one twice", x.same(0, 1), false);
        x.remove(1, 1, -2);
        x.add(1, 2, 2);
        DUE.answer("another time", x.same(0, 1), false);
        x.remove(1, 2, 2);
        x.add(1, 1, 2);
        x.add(0, 0, 6);
        x.add(1, 0, 5);
        DUE.answer("another first row", x.same(0, 1), false);
        x.add(0, 0, 5);
        x.add(1, 0, 6);
        x.add(0, 9, 5);
        x.add(1, 9, 6);
        DUE.answer("another last row", x.same(0, 1), false);
        x.remove(0, 9, 5);
        x.remove(1, 9, 6);
        DUE.answer("rows that went do not count", x.same(0, 1), true);
        x.addReal(3, 0, MINUS_ZERO);
        x.addReal(4, 0, 0);
        DUE.answer("zeros", x.same(3, 4), true);
        x.addReal(3, 0, ONE);
        x.addReal(4, 0, ONE | MINUS_ZERO);
        DUE.answer("signs", x.same(3, 4), false);
        for (int f : new int[] {-1, 5, 12}) {
            DUE.answer("no b", x.same(0, f), false);
            DUE.answer("no a", x.same(f, 0), false);
            DUE.answer("neither", x.same(f, f), false);
        }
    }

    private static void rows() {
        ExactFolds x = with(4);
        DUE.answer("rows", x.rows(0), 0);
        x.add(0, 0, 1);
        x.add(0, 0, 1);
        DUE.answer("alike ones count", x.rows(0), 2);
        for (int f : NO_FOLDS) {
            DUE.answer("rows(" + f + ")", x.rows(f), -1);
        }
    }

    private static void refusalOrder() {
        ExactFolds x = with(0, 1);
        for (int f : new int[] {-1, 2, Integer.MAX_VALUE, Integer.MIN_VALUE}) {
            DUE.answer("-1 first", x.add(f, -1, 0), -1);
            DUE.answer("-1 first", x.addReal(f, -1, -1), -1);
            DUE.answer("-1 first", x.remove(f, -1, 0), -1);
            DUE.answer("-1 first", x.removeReal(f, -1, -1), -1);
        }
        DUE.answer("-3 before -2", x.add(1, -1, 0), -3);
        DUE.answer("-3 before -2", x.addReal(0, 1000001, -1), -3);
    }
}
