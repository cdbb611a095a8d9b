/** Promises 1, 2 and 9: a new object, fold, rows; and what 'Terms' says of FOLDS. */
public final class FoldTest {
    private static final Due DUE = new Due();
    private static final int[] NO_KINDS = {-1, 5, Integer.MIN_VALUE, Integer.MAX_VALUE};

    public static void main(String[] args) {
        DUE.sentence("1 a new object: No folds", FoldTest::newObject);
        DUE.sentence("1 a new object: No folds, whatever another object has", FoldTest::objectsStandApart);
        DUE.sentence("2 fold: A fold of a KIND", FoldTest::foldOfKind);
        DUE.sentence("2 fold: without ROWS", FoldTest::foldWithoutRows);
        DUE.sentence("2 fold: its number, from 0", FoldTest::foldNumbers);
        DUE.sentence("2 fold: -2", FoldTest::noSuchKind);
        DUE.sentence("2 fold: -4 there are 12", FoldTest::noRoom);
        DUE.sentence("2 fold: -2 before -4", FoldTest::noSuchKindFirst);
        DUE.sentence("Terms: FOLDS 0 .. 11", FoldTest::lastFold);
        DUE.sentence("9 rows: How many ROWS it has", FoldTest::rows);
        DUE.sentence("9 rows: none, and 64", FoldTest::rowsAtTheEnds);
        DUE.sentence("9 rows: -1", FoldTest::rowsOfNone);
        DUE.end();
    }

    private static void newObject() {
        ExactFolds x = new ExactFolds();
        for (int f = 0; f < 12; f++) {
            DUE.answer("rows", x.rows(f), -1);
            DUE.answer("same", x.same(f, f), false);
            DUE.answer("state", x.state(f), -1);
            DUE.answer("rank", x.rank(f, 0), -1);
            DUE.answer("unlike", x.unlike(f), -1);
            DUE.answer("joined", x.joined(f, 0), -1);
            DUE.answer("add", x.add(f, 0, 0), -1);
            DUE.answer("addReal", x.addReal(f, 0, 0), -1);
            DUE.answer("remove", x.remove(f, 0, 0), -1);
            DUE.answer("removeReal", x.removeReal(f, 0, 0), -1);
            DUE.answer("merge", x.merge(f, (f + 1) % 12), -1);
            DUE.answer("limb", x.limb(f, 3), 0);
            DUE.answer("real", x.real(f), 0);
            DUE.answer("mean", x.mean(f, 0), Made.NOTHING);
            DUE.answer("spread", x.spread(f, 0), Made.NOTHING);
            DUE.answer("least", x.least(f, 0), Made.NOTHING);
            DUE.answer("item", x.item(f, 0), Made.NOTHING);
        }
        DUE.answer("the first fold", x.fold(0), 0);
    }

    private static void objectsStandApart() {
        ExactFolds x = Made.twelve();
        ExactFolds y = new ExactFolds();
        DUE.answer("rows", y.rows(0), -1);
        DUE.answer("fold", y.fold(4), 0);
        y.add(0, 0, 3);
        DUE.answer("rows of the other", x.rows(0), 0);
    }

    private static void foldOfKind() {
        for (int kind = 0; kind < 5; kind++) {
            ExactFolds x = Made.with(kind);
            DUE.answer("REAL alone", x.addReal(0, 0, 0), kind == Made.REAL ? 1 : -3);
            DUE.answer("ORDERED alone", x.unlike(0), kind == Made.ORDERED ? 0 : -3);
            DUE.answer("OWN alone", x.state(0), kind == Made.OWN ? 0 : -3);
            DUE.answer("SPREAD alone", x.add(0, 0, 4) == 1 && x.mean(0, 0) == 4, kind == Made.SPREAD);
            DUE.answer("WIDE alone", x.limb(0, 0), kind == Made.WIDE ? 4 : 0);
        }
    }

    private static void foldWithoutRows() {
        for (int kind = 0; kind < 5; kind++) {
            DUE.answer("rows", Made.with(kind).rows(0), 0);
            ExactFolds x = Made.full(kind);
            x.fold(kind);
            DUE.answer("rows beside a full one", x.rows(1), 0);
        }
    }

    private static void foldNumbers() {
        ExactFolds x = new ExactFolds();
        for (int i = 0; i < 12; i++) {
            DUE.answer("none yet", x.rows(i), -1);
            DUE.answer("fold", x.fold(i % 5), i);
            DUE.answer("there now", x.rows(i), 0);
        }
    }

    private static void noSuchKind() {
        for (int kind : NO_KINDS) {
            DUE.refused("fold(" + kind + ")", ExactFolds::new, x -> x.fold(kind), -2);
            DUE.refused("fold(" + kind + ") with others", Made::allKinds, x -> x.fold(kind), -2);
        }
        ExactFolds x = new ExactFolds();
        x.fold(5);
        DUE.answer("no number is lost", x.fold(4), 0);
    }

    private static void noRoom() {
        for (int kind = 0; kind < 5; kind++) {
            int asked = kind;
            DUE.refused("a 13th of kind " + kind, Made::twelve, x -> x.fold(asked), -4);
        }
        ExactFolds x = Made.twelve();
        x.fold(0);
        DUE.answer("and none is there", x.rows(12), -1);
    }

    private static void noSuchKindFirst() {
        for (int kind : NO_KINDS) {
            DUE.refused("a 13th of kind " + kind, Made::twelve, x -> x.fold(kind), -2);
        }
    }

    private static void lastFold() {
        ExactFolds x = Made.twelve();
        DUE.answer("rows(11)", x.rows(11), 0);
        DUE.answer("add to 11", x.add(11, 0, 1), -3);
        DUE.answer("addReal to 11", x.addReal(11, 0, Made.ONE), 1);
        DUE.answer("merge of 11", x.merge(1, 11), 1);
        DUE.answer("same", x.same(6, 11), true);
        DUE.answer("rows(12)", x.rows(12), -1);
        DUE.answer("rows(-1)", x.rows(-1), -1);
        DUE.answer("add to 12", x.add(12, 0, 0), -1);
        DUE.answer("state(10)", x.state(10), -3);
        DUE.answer("state(9)", x.state(9), 0);
    }

    private static void rows() {
        for (int f : Made.NOT_REAL) {
            ExactFolds x = Made.emptyOfAllKinds();
            x.add(f, 0, 1);
            x.add(f, 0, 1);
            DUE.answer("alike ones count", x.rows(f), 2);
            x.remove(f, 0, 1);
            DUE.answer("one went", x.rows(f), 1);
        }
    }

    private static void rowsAtTheEnds() {
        for (int kind = 0; kind < 5; kind++) {
            DUE.answer("none", Made.with(kind).rows(0), 0);
            DUE.answer("all", Made.full(kind).rows(0), 64);
        }
    }

    private static void rowsOfNone() {
        for (int f : Made.NO_FOLDS) {
            DUE.refused("rows(" + f + ")", Made::allKinds, x -> x.rows(f), -1);
        }
    }
}
