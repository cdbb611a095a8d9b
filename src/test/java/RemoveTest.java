/** Promises 5 and 6: remove, removeReal. */
public final class RemoveTest {
    private static final Due DUE = new Due();

    public static void main(String[] args) {
        DUE.sentence("5 remove: One such ROW goes: how many are left", RemoveTest::oneGoes);
        DUE.sentence("5 remove: one alone, of several alike", RemoveTest::oneOfAlike);
        DUE.sentence("5 remove: the last one goes", RemoveTest::lastGoes);
        DUE.sentence("5 remove: of a full fold, each", RemoveTest::eachOfFull);
        DUE.sentence("5 remove: the least and greatest VALUES and TIMES", RemoveTest::ends);
        DUE.sentence("5 remove: -1", RemoveTest::noFold);
        DUE.sentence("5 remove: -3 it is REAL", RemoveTest::ofReal);
        DUE.sentence("5 remove: -3 has no such ROW, of this TIME", RemoveTest::noSuchTime);
        DUE.sentence("5 remove: -3 has no such ROW, of this VALUE", RemoveTest::noSuchValue);
        DUE.sentence("5 remove: -3 has no such ROW, has none", RemoveTest::noRows);
        DUE.sentence("5 remove: -3 has no such ROW, a TIME or VALUE that none can have", RemoveTest::outside);
        DUE.sentence("5 remove: -3 has no such ROW any more", RemoveTest::goneOnce);
        DUE.sentence("5 remove: -1 before -3", RemoveTest::noFoldFirst);
        DUE.sentence("6 removeReal: Likewise of a REAL fold", RemoveTest::oneRealGoes);
        DUE.sentence("6 removeReal: -0.0 is taken for 0.0", RemoveTest::zeros);
        DUE.sentence("6 removeReal: the last one goes", RemoveTest::lastRealGoes);
        DUE.sentence("6 removeReal: -1", RemoveTest::noRealFold);
        DUE.sentence("6 removeReal: -3 it is not REAL", RemoveTest::ofOthers);
        DUE.sentence("6 removeReal: -3 there is no such ROW", RemoveTest::noSuchReal);
        DUE.sentence("6 removeReal: -3 bits of what is infinite or no number", RemoveTest::notFinite);
        DUE.end();
    }

    private static void oneGoes() {
        for (int kind : Made.NOT_REAL) {
            ExactFolds x = Made.with(kind);
            x.add(0, 5, 2);
            x.add(0, 6, 1);
            x.add(0, 5, 3);
            DUE.answer("the middle one", x.remove(0, 5, 3), 2);
            DUE.answer("first left", x.item(0, 0), 2);
            DUE.answer("second left", x.item(0, 1), 1);
            DUE.answer("rows", x.rows(0), 2);
        }
    }

    private static void oneOfAlike() {
        for (int kind : Made.NOT_REAL) {
            ExactFolds x = Made.with(kind);
            for (int i = 0; i < 64; i++) {
                x.add(0, 9, 2);
            }
            for (int left = 63; left >= 0; left--) {
                DUE.answer("one of " + (left + 1), x.remove(0, 9, 2), left);
                DUE.answer("rows", x.rows(0), left);
            }
            DUE.answer("one of none", x.remove(0, 9, 2), -3);
        }
    }

    private static void lastGoes() {
        for (int kind : Made.NOT_REAL) {
            ExactFolds x = Made.with(kind);
            x.add(0, 0, 0);
            DUE.answer("the only one", x.remove(0, 0, 0), 0);
            DUE.answer("no rows", x.rows(0), 0);
            DUE.answer("no item", x.item(0, 0), Made.NOTHING);
        }
    }

    private static void eachOfFull() {
        for (int kind : Made.NOT_REAL) {
            ExactFolds x = Made.full(kind);
            for (int i = 0; i < 64; i++) {
                // 37 and 64 have no common divisor: every row comes once.
                int time = i * 37 % 64;
                DUE.answer("time " + time, x.remove(0, time, time % 4), 63 - i);
            }
        }
    }

    private static void ends() {
        long[][] ends = {{Long.MIN_VALUE, Long.MAX_VALUE}, {}, {-1000000, 1000000},
            {-100000000000000000L, 100000000000000000L}, {0, 3}};
        for (int kind : Made.NOT_REAL) {
            ExactFolds x = Made.with(kind);
            x.add(0, 0, ends[kind][0]);
            x.add(0, 1000000, ends[kind][1]);
            DUE.answer("the greatest at 0", x.remove(0, 0, ends[kind][1]), -3);
            DUE.answer("the least at 1000000", x.remove(0, 1000000, ends[kind][0]), -3);
            DUE.answer("the greatest", x.remove(0, 1000000, ends[kind][1]), 1);
            DUE.answer("the least", x.remove(0, 0, ends[kind][0]), 0);
        }
        ExactFolds y = Made.with(Made.WIDE);
        y.add(0, 0, 0);
        DUE.answer("the bits of -0.0 are not 0 of a WIDE fold", y.remove(0, 0, Made.MINUS_ZERO), -3);
    }

    private static void noFold() {
        for (int f : Made.NO_FOLDS) {
            DUE.refused("remove from " + f, Made::allKinds, x -> x.remove(f, 7, 1), -1);
        }
    }

    private static void ofReal() {
        DUE.refused("a row of these bits", Made::allKinds, x -> x.remove(Made.REAL, 7, Made.ONE), -3);
        DUE.refused("a row of 0.0", Made::allKinds, x -> x.remove(Made.REAL, 0, 0), -3);
        DUE.refused("a row of this number", Made::allKinds, x -> x.remove(Made.REAL, 7, 1), -3);
    }

    private static void noSuchTime() {
        for (int f : Made.NOT_REAL) {
            for (int time : new int[] {0, 6, 8, Made.LAST_TIME}) {
                DUE.refused("time " + time, Made::allKinds, x -> x.remove(f, time, 1), -3);
            }
        }
    }

    private static void noSuchValue() {
        for (int f : Made.NOT_REAL) {
            for (long v : new long[] {0, 2, 3}) {
                DUE.refused("value " + v, Made::allKinds, x -> x.remove(f, 7, v), -3);
            }
        }
    }

    private static void noRows() {
        for (int f : Made.NOT_REAL) {
            DUE.refused("of none", Made::emptyOfAllKinds, x -> x.remove(f, 0, 0), -3);
        }
    }

    private static void outside() {
        for (int f : Made.NOT_REAL) {
            for (int time : Made.WRONG_TIMES) {
                DUE.refused("time " + time, Made::allKinds, x -> x.remove(f, time, 1), -3);
            }
            for (long v : new long[] {Long.MIN_VALUE, Long.MAX_VALUE, -1, (1L << 32) + 1}) {
                DUE.refused("value " + v, Made::allKinds, x -> x.remove(f, 7, v), -3);
            }
            DUE.refused("behind 64", () -> Made.full(f), x -> x.remove(0, Made.LAST_TIME, 3), -3);
            DUE.refused("ahead of 64", () -> Made.full(f), x -> x.remove(0, -1, 0), -3);
        }
    }

    private static void goneOnce() {
        for (int kind : Made.NOT_REAL) {
            ExactFolds x = Made.with(kind, kind);
            x.add(0, 4, 1);
            x.add(0, 6, 3);
            x.remove(0, 6, 3);
            DUE.answer("the last, once more", x.remove(0, 6, 3), -3);
            x.merge(1, 0);
            DUE.answer("what another fold got", x.remove(0, 4, 1), -3);
            DUE.answer("from the other fold", x.remove(1, 4, 1), 0);
        }
    }

    private static void noFoldFirst() {
        for (int f : Made.NO_FOLDS) {
            DUE.refused("no such row", Made::allKinds, x -> x.remove(f, 99, 99), -1);
            DUE.refused("time -1", Made::allKinds, x -> x.remove(f, -1, 0), -1);
            DUE.refused("no such real row", Made::allKinds, x -> x.removeReal(f, 99, Made.INFINITE), -1);
        }
    }

    private static void oneRealGoes() {
        ExactFolds x = Made.with(Made.REAL);
        x.addReal(0, 3, Made.ONE);
        x.addReal(0, 3, Made.bits(-2.5));
        x.addReal(0, 3, Made.ONE);
        x.addReal(0, 2, Made.ONE);
        DUE.answer("one of two", x.removeReal(0, 3, Made.ONE), 3);
        DUE.answer("sum", x.real(0), Made.bits(-0.5));
        DUE.answer("the other", x.removeReal(0, 3, Made.ONE), 2);
        DUE.answer("sum", x.real(0), Made.bits(-1.5));
        DUE.answer("of another time", x.removeReal(0, 2, Made.ONE), 1);
        DUE.answer("sum", x.real(0), Made.bits(-2.5));
    }

    private static void zeros() {
        ExactFolds x = Made.with(Made.REAL);
        x.addReal(0, 3, Made.MINUS_ZERO);
        x.addReal(0, 4, 0);
        DUE.answer("-0.0 goes as 0.0", x.removeReal(0, 3, 0), 1);
        DUE.answer("0.0 goes as -0.0", x.removeReal(0, 4, Made.MINUS_ZERO), 0);
        DUE.answer("none is left", x.removeReal(0, 4, Made.MINUS_ZERO), -3);
    }

    private static void lastRealGoes() {
        ExactFolds x = Made.with(Made.REAL);
        x.addReal(0, 0, Made.ONE);
        DUE.answer("the only one", x.removeReal(0, 0, Made.ONE), 0);
        DUE.answer("rows", x.rows(0), 0);
        DUE.answer("sum", x.real(0), 0);
        DUE.answer("once more", x.removeReal(0, 0, Made.ONE), -3);
    }

    private static void noRealFold() {
        for (int f : Made.NO_FOLDS) {
            DUE.refused("removeReal from " + f, Made::allKinds, x -> x.removeReal(f, 7, Made.ONE), -1);
        }
    }

    private static void ofOthers() {
        for (int f : Made.NOT_REAL) {
            DUE.refused("a row of this number", Made::allKinds, x -> x.removeReal(f, 7, 1), -3);
            DUE.refused("a row of 2", Made::allKinds, x -> x.removeReal(f, 0, 2), -3);
            DUE.refused("none such", Made::allKinds, x -> x.removeReal(f, 7, Made.ONE), -3);
        }
        ExactFolds y = Made.with(Made.WIDE);
        y.add(0, 0, Made.MINUS_ZERO);
        y.add(0, 0, Made.ONE);
        DUE.answer("a row of these bits", y.removeReal(0, 0, Made.ONE), -3);
        DUE.answer("a row of the bits of -0.0", y.removeReal(0, 0, Made.MINUS_ZERO), -3);
        DUE.answer("rows", y.rows(0), 2);
    }

    private static void noSuchReal() {
        for (int time : new int[] {0, 6, 8, -1, 1000001, Integer.MIN_VALUE, Integer.MAX_VALUE}) {
            DUE.refused("time " + time, Made::allKinds, x -> x.removeReal(Made.REAL, time, Made.ONE), -3);
        }
        long[] others = {0, Made.ONE | Long.MIN_VALUE, Made.ONE + 1, Made.ONE - 1, 1};
        for (long bits : others) {
            DUE.refused(Long.toHexString(bits), Made::allKinds, x -> x.removeReal(Made.REAL, 7, bits), -3);
        }
        DUE.refused("of none", Made::emptyOfAllKinds, x -> x.removeReal(Made.REAL, 0, 0), -3);
        DUE.refused("of 64", () -> Made.full(Made.REAL), x -> x.removeReal(0, 63, 0), -3);
    }

    private static void notFinite() {
        for (long bits : new long[] {Made.INFINITE, Made.INFINITE | Long.MIN_VALUE, -1, Made.INFINITE + 1}) {
            DUE.refused(Long.toHexString(bits), Made::allKinds, x -> x.removeReal(Made.REAL, 7, bits), -3);
        }
    }
}
