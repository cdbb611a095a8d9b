/** Promises 7 and 8: merge, same. */
public final class MergeAndSameTest {
    private static final Due DUE = new Due();

    public static void main(String[] args) {
        DUE.sentence("7 merge: Fold a gets all ROWS of b", MergeAndSameTest::getsAll);
        DUE.sentence("7 merge: b, which has none then", MergeAndSameTest::hasNoneThen);
        DUE.sentence("7 merge: how many a has", MergeAndSameTest::counts);
        DUE.sentence("7 merge: without ROWS in a, in b, in both", MergeAndSameTest::withoutRows);
        DUE.sentence("7 merge: up to 64", MergeAndSameTest::upToFull);
        DUE.sentence("7 merge: of every KIND", MergeAndSameTest::everyKind);
        DUE.sentence("7 merge: -1 either", MergeAndSameTest::noFold);
        DUE.sentence("7 merge: -1 a is b", MergeAndSameTest::itself);
        DUE.sentence("7 merge: -3 they are of two KINDS", MergeAndSameTest::twoKinds);
        DUE.sentence("7 merge: -4 more than 64", MergeAndSameTest::tooMany);
        DUE.sentence("7 merge: -1 before -3, -4", MergeAndSameTest::noFoldFirst);
        DUE.sentence("7 merge: -3 before -4", MergeAndSameTest::kindsBeforeRoom);
        DUE.sentence("8 same: Whether they are of one KIND", MergeAndSameTest::sameKind);
        DUE.sentence("8 same: with the same ROWS, in whatever order they came", MergeAndSameTest::sameRows);
        DUE.sentence("8 same: another VALUE", MergeAndSameTest::otherValue);
        DUE.sentence("8 same: another TIME", MergeAndSameTest::otherTime);
        DUE.sentence("8 same: a ROW more", MergeAndSameTest::rowMore);
        DUE.sentence("8 same: alike ones count", MergeAndSameTest::alikeOnes);
        DUE.sentence("8 same: ROWS that went do not count", MergeAndSameTest::goneRows);
        DUE.sentence("8 same: no ROWS", MergeAndSameTest::noRows);
        DUE.sentence("8 same: 64 ROWS, a fold with itself", MergeAndSameTest::fullAndItself);
        DUE.sentence("8 same: REAL, by bits", MergeAndSameTest::reals);
        DUE.sentence("8 same: false: there is no such one", MergeAndSameTest::noSuchOne);
        DUE.end();
    }

    private static void getsAll() {
        ExactFolds x = Made.with(3, 3, 3);
        x.add(0, 5, 50);
        x.add(0, 1, 10);
        x.add(1, 3, 30);
        x.add(1, 5, 50);
        x.add(1, 5, 40);
        x.add(1, 0, 0);
        DUE.answer("merge", x.merge(0, 1), 6);
        long[] want = {0, 10, 30, 40, 50, 50};
        int[] times = {0, 1, 3, 5, 5, 5};
        for (int i = 0; i < want.length; i++) {
            DUE.answer("item " + i, x.item(0, i), want[i]);
            x.add(2, times[i], want[i]);
        }
        DUE.answer("with their times", x.same(0, 2), true);
    }

    private static void hasNoneThen() {
        ExactFolds x = Made.with(3, 3);
        x.add(0, 1, 1);
        x.add(1, 2, 2);
        x.merge(0, 1);
        DUE.answer("rows", x.rows(1), 0);
        DUE.answer("item", x.item(1, 0), Made.NOTHING);
        DUE.answer("least", x.least(1, 0), Made.NOTHING);
        DUE.answer("remove", x.remove(1, 2, 2), -3);
        DUE.answer("it is a fold yet", x.add(1, 9, 9), 1);
        DUE.answer("of its kind yet", x.unlike(1), 1);
        DUE.answer("a does not see that", x.rows(0), 2);
        DUE.answer("back", x.merge(1, 0), 3);
        DUE.answer("rows of a", x.rows(0), 0);
    }

    private static void counts() {
        for (int n = 0; n <= 64; n += 16) {
            for (int m = 0; m + n <= 64; m += 8) {
                ExactFolds x = Made.with(0, 0);
                Made.fill(x, 0, Made.WIDE, n);
                Made.fill(x, 1, Made.WIDE, m);
                DUE.answer(n + " and " + m, x.merge(0, 1), n + m);
                DUE.answer("rows", x.rows(0), n + m);
            }
        }
    }

    private static void withoutRows() {
        for (int kind = 0; kind < 5; kind++) {
            ExactFolds x = Made.with(kind, kind, kind);
            DUE.answer("both", x.merge(0, 1), 0);
            Made.fill(x, 0, kind, 3);
            Made.fill(x, 2, kind, 3);
            DUE.answer("b", x.merge(0, 1), 3);
            DUE.answer("a is what it was", x.same(0, 2), true);
            DUE.answer("a", x.merge(1, 0), 3);
            DUE.answer("a is what b was", x.same(1, 2), true);
        }
    }

    private static void upToFull() {
        for (int n : new int[] {0, 1, 32, 63, 64}) {
            for (int kind = 0; kind < 5; kind++) {
                ExactFolds x = Made.with(kind, kind);
                Made.fill(x, 0, kind, n);
                Made.fill(x, 1, kind, 64 - n);
                DUE.answer(n + " and " + (64 - n), x.merge(0, 1), 64);
                DUE.answer("rows of a", x.rows(0), 64);
                DUE.answer("rows of b", x.rows(1), 0);
            }
        }
    }

    private static void everyKind() {
        for (int kind = 0; kind < 5; kind++) {
            ExactFolds x = Made.with(kind, kind, kind);
            Made.fill(x, 0, kind, 5);
            Made.fill(x, 1, kind, 7);
            Made.fill(x, 2, kind, 7);
            Made.fill(x, 2, kind, 5);
            DUE.answer("merge", x.merge(0, 1), 12);
            DUE.answer("all of both", x.same(0, 2), true);
        }
    }

    private static void noFold() {
        for (int f : Made.NO_FOLDS) {
            DUE.refused("no a: " + f, Made::allKinds, x -> x.merge(f, 0), -1);
            DUE.refused("no b: " + f, Made::allKinds, x -> x.merge(0, f), -1);
            DUE.refused("neither: " + f, Made::allKinds, x -> x.merge(f, f), -1);
        }
    }

    private static void itself() {
        for (int kind = 0; kind < 5; kind++) {
            int f = kind;
            DUE.refused("with rows", Made::allKinds, x -> x.merge(f, f), -1);
            DUE.refused("without rows", Made::emptyOfAllKinds, x -> x.merge(f, f), -1);
            DUE.refused("with 64", () -> Made.full(f), x -> x.merge(0, 0), -1);
        }
    }

    private static void twoKinds() {
        for (int i = 0; i < 25; i++) {
            int a = i / 5;
            int b = i % 5;
            if (a != b) {
                DUE.refused(a + " and " + b, Made::allKinds, x -> x.merge(a, b), -3);
                DUE.refused(a + " and " + b + " without rows", Made::emptyOfAllKinds, x -> x.merge(a, b), -3);
            }
        }
    }

    private static ExactFolds two(int kind, int n, int other, int m) {
        ExactFolds x = Made.with(kind, other);
        Made.fill(x, 0, kind, n);
        Made.fill(x, 1, other, m);
        return x;
    }

    private static void tooMany() {
        int[] ofA = {64, 1, 33, 64, 63};
        int[] ofB = {1, 64, 32, 64, 2};
        for (int i = 0; i < ofA.length; i++) {
            int n = ofA[i];
            int m = ofB[i];
            for (int kind : new int[] {Made.WIDE, Made.REAL, Made.OWN}) {
                DUE.refused(n + " and " + m, () -> two(kind, n, kind, m), x -> x.merge(0, 1), -4);
            }
        }
    }

    private static void noFoldFirst() {
        DUE.refused("no b, a is full", () -> Made.full(Made.WIDE), x -> x.merge(0, 1), -1);
        DUE.refused("no a, b is full", () -> Made.full(Made.WIDE), x -> x.merge(1, 0), -1);
        DUE.refused("a is b, full", () -> Made.full(Made.WIDE), x -> x.merge(0, 0), -1);
    }

    private static void kindsBeforeRoom() {
        DUE.refused("64 and 1", () -> two(Made.WIDE, 64, Made.OWN, 1), x -> x.merge(0, 1), -3);
        DUE.refused("64 and 64", () -> two(Made.ORDERED, 64, Made.SPREAD, 64), x -> x.merge(1, 0), -3);
    }

    private static void sameKind() {
        for (int a = 0; a < 5; a++) {
            for (int b = 0; b < 5; b++) {
                ExactFolds x = Made.with(a, b);
                DUE.answer(a + " and " + b + " without rows", x.same(0, 1), a == b);
                x.addReal(0, 3, 0);
                x.add(0, 3, 0);
                x.addReal(1, 3, 0);
                x.add(1, 3, 0);
                DUE.answer(a + " and " + b + " with a row alike", x.same(0, 1), a == b);
            }
        }
    }

    private static void sameRows() {
        int[] times = {4, 0, 1000000, 4, 4, 2};
        long[] values = {1, 3, 0, 2, 1, 0};
        for (int kind : Made.NOT_REAL) {
            ExactFolds x = Made.with(kind, kind);
            for (int i = 0; i < times.length; i++) {
                x.add(0, times[i], values[i]);
                x.add(1, times[5 - i], values[5 - i]);
            }
            DUE.answer("another order", x.same(0, 1), true);
            DUE.answer("the other way round", x.same(1, 0), true);
        }
    }

    private static void otherValue() {
        for (int place = 0; place < 3; place++) {
            ExactFolds x = Made.with(3, 3);
            for (int i = 0; i < 3; i++) {
                x.add(0, i, 5);
                x.add(1, i, i == place ? 6 : 5);
            }
            DUE.answer("at row " + place, x.same(0, 1), false);
        }
        ExactFolds y = Made.with(0, 0);
        y.add(0, 0, 1);
        y.add(1, 0, 1 + (1L << 32));
        DUE.answer("beyond 32 bits", y.same(0, 1), false);
    }

    private static void otherTime() {
        for (int place = 0; place < 3; place++) {
            ExactFolds x = Made.with(3, 3);
            for (int i = 0; i < 3; i++) {
                x.add(0, 2 * i, i);
                x.add(1, 2 * i + (i == place ? 1 : 0), i);
            }
            DUE.answer("at row " + place, x.same(0, 1), false);
        }
    }

    private static void rowMore() {
        for (int n : new int[] {0, 1, 5, 63}) {
            ExactFolds x = Made.with(3, 3);
            Made.fill(x, 0, Made.ORDERED, n);
            Made.fill(x, 1, Made.ORDERED, n + 1);
            DUE.answer(n + " and one more", x.same(0, 1), false);
            DUE.answer("the other way round", x.same(1, 0), false);
        }
    }

    private static void alikeOnes() {
        ExactFolds x = Made.with(3, 3);
        long[] ofA = {1, 1, 2};
        long[] ofB = {1, 2, 2};
        for (int i = 0; i < 3; i++) {
            x.add(0, 0, ofA[i]);
            x.add(1, 0, ofB[i]);
        }
        DUE.answer("another one twice", x.same(0, 1), false);
        x.add(0, 0, 2);
        x.add(1, 0, 1);
        DUE.answer("both twice", x.same(0, 1), true);
    }

    private static void goneRows() {
        ExactFolds x = Made.with(3, 3);
        Made.fill(x, 0, Made.ORDERED, 4);
        Made.fill(x, 1, Made.ORDERED, 4);
        x.add(0, 9, 5);
        x.add(1, 9, 6);
        DUE.answer("before", x.same(0, 1), false);
        x.remove(0, 9, 5);
        x.remove(1, 9, 6);
        DUE.answer("behind", x.same(0, 1), true);
    }

    private static void noRows() {
        for (int kind = 0; kind < 5; kind++) {
            ExactFolds x = Made.with(kind, kind);
            DUE.answer("two without rows", x.same(0, 1), true);
            Made.fill(x, 0, kind, 1);
            DUE.answer("one without rows", x.same(0, 1), false);
            DUE.answer("the other way round", x.same(1, 0), false);
        }
    }

    private static void fullAndItself() {
        for (int kind = 0; kind < 5; kind++) {
            ExactFolds x = two(kind, 64, kind, 64);
            DUE.answer("two full ones", x.same(0, 1), true);
            DUE.answer("a full one with itself", x.same(0, 0), true);
            DUE.answer("one without rows with itself", Made.with(kind).same(0, 0), true);
        }
    }

    private static void reals() {
        ExactFolds x = Made.with(1, 1);
        x.addReal(0, 0, Made.MINUS_ZERO);
        x.addReal(1, 0, 0);
        DUE.answer("-0.0 and 0.0", x.same(0, 1), true);
        x.addReal(0, 0, Made.ONE);
        x.addReal(1, 0, Made.ONE | Long.MIN_VALUE);
        DUE.answer("two signs", x.same(0, 1), false);
        x.addReal(0, 0, Made.ONE | Long.MIN_VALUE);
        x.addReal(1, 0, Made.ONE);
        DUE.answer("another order", x.same(0, 1), true);
        x.addReal(0, 0, Made.bits(2.0));
        x.addReal(1, 0, Made.bits(2.0) + 1);
        DUE.answer("the last bit", x.same(0, 1), false);
        ExactFolds y = Made.with(1, 1);
        y.addReal(0, 0, Made.bits(2.0));
        y.addReal(1, 0, Made.ONE);
        y.addReal(1, 0, Made.ONE);
        DUE.answer("one sum of other rows", y.same(0, 1), false);
    }

    private static void noSuchOne() {
        for (int f : Made.NO_FOLDS) {
            ExactFolds x = Made.allKinds();
            for (int g = 0; g < 5; g++) {
                DUE.answer("no b", x.same(g, f), false);
                DUE.answer("no a", x.same(f, g), false);
            }
            DUE.answer("neither", x.same(f, f), false);
            DUE.refused("same with " + f, Made::allKinds, y -> y.same(0, f) ? 1 : 0, 0);
        }
    }
}
