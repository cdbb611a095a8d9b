/** Promises 3 and 4: add, addReal; and what 'Terms' says of ROWS, TIME and VALUE. */
public final class AddTest {
    private static final Due DUE = new Due();
    private static final long SPREAD_BOUND = 1000000L;
    private static final long ORDERED_BOUND = 100000000000000000L;
    private static final long[] NO_NUMBERS = {
        Made.INFINITE + 1, Made.INFINITE | 1L << 51, Made.INFINITE | 1L << 32, Long.MAX_VALUE, -1L,
        Made.INFINITE + 1 | Long.MIN_VALUE, Made.INFINITE | 1L << 51 | Long.MIN_VALUE,
    };

    public static void main(String[] args) {
        DUE.sentence("3 add: A ROW more: how many there are", AddTest::counts);
        DUE.sentence("Terms: several may be alike", AddTest::alike);
        DUE.sentence("3 add: -1", AddTest::noFold);
        DUE.sentence("3 add: -3 it is REAL", AddTest::toReal);
        DUE.sentence("3 add: -2 TIME", AddTest::timeOutside);
        DUE.sentence("Terms: a TIME (0 to 1000000)", AddTest::timeAtTheEnds);
        DUE.sentence("3 add: -2 VALUE, of WIDE none", AddTest::wideValues);
        DUE.sentence("3 add: -2 VALUE, of SPREAD outside -1000000 to 1000000", AddTest::spreadValues);
        DUE.sentence("3 add: -2 VALUE, of ORDERED outside -10^17 to 10^17", AddTest::orderedValues);
        DUE.sentence("3 add: -2 VALUE, of OWN outside 0 to 3", AddTest::ownValues);
        DUE.sentence("3 add: -4 there are 64", AddTest::full);
        DUE.sentence("3 add: room again behind what was taken back", AddTest::roomAgain);
        DUE.sentence("3 add: -1 before -2", AddTest::noFoldFirst);
        DUE.sentence("3 add: -3 before -2", AddTest::realBeforeBounds);
        DUE.sentence("3 add: -3 before -4", AddTest::realBeforeRoom);
        DUE.sentence("3 add: -2 before -4", AddTest::boundsBeforeRoom);
        DUE.sentence("4 addReal: Likewise of a REAL fold", AddTest::countsReals);
        DUE.sentence("4 addReal: -1", AddTest::noRealFold);
        DUE.sentence("4 addReal: -3 it is not REAL", AddTest::toOthers);
        DUE.sentence("4 addReal: -2 TIME", AddTest::realTimeOutside);
        DUE.sentence("4 addReal: -2 bits of what is infinite", AddTest::infinite);
        DUE.sentence("4 addReal: -2 bits of what is no number", AddTest::noNumber);
        DUE.sentence("Terms: a double that is finite", AddTest::finite);
        DUE.sentence("Terms: those of -0.0 are taken for those of 0.0", AddTest::minusZero);
        DUE.sentence("4 addReal: -4", AddTest::fullOfReals);
        DUE.sentence("4 addReal: -1 before -2", AddTest::noRealFoldFirst);
        DUE.sentence("4 addReal: -3 before -2", AddTest::othersBeforeBounds);
        DUE.sentence("4 addReal: -3 before -4", AddTest::othersBeforeRoom);
        DUE.sentence("4 addReal: -2 before -4", AddTest::realBoundsBeforeRoom);
        DUE.end();
    }

    private static void counts() {
        for (int kind : Made.NOT_REAL) {
            ExactFolds x = Made.with(kind);
            for (int i = 1; i <= 64; i++) {
                DUE.answer("add", x.add(0, 70 - i, i % 4), i);
                DUE.answer("rows", x.rows(0), i);
            }
        }
    }

    private static void alike() {
        for (int kind : Made.NOT_REAL) {
            ExactFolds x = Made.with(kind);
            for (int i = 1; i <= 64; i++) {
                DUE.answer("add", x.add(0, 5, 3), i);
            }
        }
    }

    private static void noFold() {
        for (int f : Made.NO_FOLDS) {
            DUE.refused("add to " + f, Made::allKinds, x -> x.add(f, 0, 0), -1);
        }
    }

    private static void toReal() {
        DUE.refused("add of 0", Made::allKinds, x -> x.add(Made.REAL, 0, 0), -3);
        DUE.refused("add of bits", Made::allKinds, x -> x.add(Made.REAL, 0, Made.ONE), -3);
    }

    private static void timeOutside() {
        for (int time : Made.WRONG_TIMES) {
            for (int f : Made.NOT_REAL) {
                DUE.refused("time " + time, Made::allKinds, x -> x.add(f, time, 0), -2);
            }
        }
    }

    private static void timeAtTheEnds() {
        for (int f : Made.NOT_REAL) {
            ExactFolds x = Made.emptyOfAllKinds();
            DUE.answer("time 1000000", x.add(f, Made.LAST_TIME, 1), 1);
            DUE.answer("time 0", x.add(f, 0, 2), 2);
            DUE.answer("the first", x.item(f, 0), 2);
            DUE.answer("the last", x.item(f, 1), 1);
        }
        ExactFolds y = Made.with(Made.REAL);
        DUE.answer("time 1000000", y.addReal(0, Made.LAST_TIME, Made.ONE), 1);
        DUE.answer("time 0", y.addReal(0, 0, Made.ONE), 2);
    }

    private static void wideValues() {
        ExactFolds x = Made.with(Made.WIDE);
        long[] any = {Long.MIN_VALUE, Long.MAX_VALUE, -1, 0, ORDERED_BOUND + 1, -ORDERED_BOUND - 1, Made.INFINITE};
        for (int i = 0; i < any.length; i++) {
            DUE.answer("add of " + any[i], x.add(0, i, any[i]), i + 1);
            DUE.answer("item", x.item(0, i), any[i]);
        }
    }

    private static void bounds(int f, long least, long greatest) {
        ExactFolds y = Made.emptyOfAllKinds();
        DUE.answer("the least", y.add(f, 0, least), 1);
        DUE.answer("the greatest", y.add(f, 0, greatest), 2);
        DUE.answer("the least is kept", y.item(f, 0), least);
        DUE.answer("the greatest is kept", y.item(f, 1), greatest);
        long wrapped = 1L << 32;
        for (long v : new long[] {least - 1, greatest + 1, Long.MIN_VALUE, Long.MAX_VALUE, Long.MIN_VALUE + 1}) {
            DUE.refused("add of " + v, Made::allKinds, x -> x.add(f, 0, v), -2);
        }
        if (wrapped > greatest) {
            DUE.refused("add of 2^32", Made::allKinds, x -> x.add(f, 0, wrapped), -2);
            DUE.refused("add of 1 - 2^32", Made::allKinds, x -> x.add(f, 0, 1 - wrapped), -2);
        }
    }

    private static void spreadValues() {
        bounds(Made.SPREAD, -SPREAD_BOUND, SPREAD_BOUND);
    }

    private static void orderedValues() {
        bounds(Made.ORDERED, -ORDERED_BOUND, ORDERED_BOUND);
    }

    private static void ownValues() {
        bounds(Made.OWN, 0, 3);
    }

    private static void full() {
        for (int kind : Made.NOT_REAL) {
            DUE.refused("a 65th", () -> Made.full(kind), x -> x.add(0, 0, 0), -4);
            DUE.refused("a 65th behind all", () -> Made.full(kind), x -> x.add(0, Made.LAST_TIME, 3), -4);
            DUE.answer("a 64th", Made.filled(kind, 63).add(0, 0, 0), 64);
        }
    }

    private static void roomAgain() {
        for (int kind : Made.NOT_REAL) {
            ExactFolds x = Made.full(kind);
            x.remove(0, 63, 3);
            DUE.answer("a 64th", x.add(0, 0, 0), 64);
            DUE.answer("a 65th", x.add(0, 0, 0), -4);
        }
        ExactFolds y = Made.full(Made.REAL);
        y.removeReal(0, 63, Made.bits(3));
        DUE.answer("a 64th", y.addReal(0, 0, 0), 64);
        DUE.answer("a 65th", y.addReal(0, 0, 0), -4);
    }

    private static void noFoldFirst() {
        for (int f : Made.NO_FOLDS) {
            DUE.refused("time -1", Made::allKinds, x -> x.add(f, -1, 0), -1);
            DUE.refused("a value out of bounds", Made::allKinds, x -> x.add(f, 0, Long.MIN_VALUE), -1);
        }
    }

    private static void realBeforeBounds() {
        for (int time : Made.WRONG_TIMES) {
            DUE.refused("time " + time, Made::allKinds, x -> x.add(Made.REAL, time, 0), -3);
        }
        DUE.refused("no number", Made::allKinds, x -> x.add(Made.REAL, 0, -1), -3);
    }

    private static void realBeforeRoom() {
        DUE.refused("a 65th", () -> Made.full(Made.REAL), x -> x.add(0, 0, 0), -3);
    }

    private static void boundsBeforeRoom() {
        for (int kind : Made.NOT_REAL) {
            DUE.refused("time -1", () -> Made.full(kind), x -> x.add(0, -1, 0), -2);
            DUE.refused("time 1000001", () -> Made.full(kind), x -> x.add(0, 1000001, 0), -2);
            if (kind != Made.WIDE) {
                DUE.refused("a value out of bounds", () -> Made.full(kind), x -> x.add(0, 0, Long.MAX_VALUE), -2);
            }
        }
    }

    private static void countsReals() {
        ExactFolds x = Made.with(Made.REAL);
        for (int i = 1; i <= 64; i++) {
            DUE.answer("addReal", x.addReal(0, Made.LAST_TIME - i % 5, Made.bits(i % 3)), i);
            DUE.answer("rows", x.rows(0), i);
        }
    }

    private static void noRealFold() {
        for (int f : Made.NO_FOLDS) {
            DUE.refused("addReal to " + f, Made::allKinds, x -> x.addReal(f, 0, Made.ONE), -1);
        }
    }

    private static void toOthers() {
        for (int f : Made.NOT_REAL) {
            DUE.refused("addReal of 0", Made::allKinds, x -> x.addReal(f, 0, 0), -3);
            DUE.refused("addReal of 1", Made::allKinds, x -> x.addReal(f, 0, Made.ONE), -3);
        }
    }

    private static void realTimeOutside() {
        for (int time : Made.WRONG_TIMES) {
            DUE.refused("time " + time, Made::allKinds, x -> x.addReal(Made.REAL, time, Made.ONE), -2);
        }
    }

    private static void infinite() {
        DUE.refused("infinite", Made::allKinds, x -> x.addReal(Made.REAL, 0, Made.INFINITE), -2);
        long below = Made.INFINITE | Long.MIN_VALUE;
        DUE.refused("infinite, below 0", Made::allKinds, x -> x.addReal(Made.REAL, 0, below), -2);
    }

    private static void noNumber() {
        for (long bits : NO_NUMBERS) {
            DUE.refused(Long.toHexString(bits), Made::allKinds, x -> x.addReal(Made.REAL, 0, bits), -2);
        }
    }

    private static void finite() {
        long[] finite = {Made.INFINITE - 1, Made.INFINITE - 1 | Long.MIN_VALUE, 1, 1 | Long.MIN_VALUE,
            (1L << 52) - 1, 1L << 52, Made.ONE, 0x7FE0000000000000L, 0x0010000000000000L | Long.MIN_VALUE};
        for (long bits : finite) {
            ExactFolds x = Made.with(Made.REAL);
            DUE.answer("addReal of " + Long.toHexString(bits), x.addReal(0, 0, bits), 1);
            DUE.answer("its sum", x.real(0), bits);
        }
    }

    private static void minusZero() {
        ExactFolds x = Made.with(Made.REAL, Made.REAL);
        DUE.answer("-0.0", x.addReal(0, 3, Made.MINUS_ZERO), 1);
        DUE.answer("0.0", x.addReal(1, 3, 0), 1);
        DUE.answer("they are the same", x.same(0, 1), true);
        DUE.answer("their sum", x.real(0), 0);
        DUE.answer("it goes as 0.0", x.removeReal(0, 3, 0), 0);
    }

    private static void fullOfReals() {
        DUE.refused("a 65th", () -> Made.full(Made.REAL), x -> x.addReal(0, 0, 0), -4);
        DUE.refused("a 65th behind all", () -> Made.full(Made.REAL), x -> x.addReal(0, Made.LAST_TIME, Made.ONE), -4);
        DUE.answer("a 64th", Made.filled(Made.REAL, 63).addReal(0, 0, 0), 64);
    }

    private static void noRealFoldFirst() {
        for (int f : Made.NO_FOLDS) {
            DUE.refused("time -1", Made::allKinds, x -> x.addReal(f, -1, 0), -1);
            DUE.refused("infinite", Made::allKinds, x -> x.addReal(f, 0, Made.INFINITE), -1);
        }
    }

    private static void othersBeforeBounds() {
        for (int f : Made.NOT_REAL) {
            DUE.refused("time -1", Made::allKinds, x -> x.addReal(f, -1, 0), -3);
            DUE.refused("time 1000001", Made::allKinds, x -> x.addReal(f, 1000001, 0), -3);
            DUE.refused("no number", Made::allKinds, x -> x.addReal(f, 0, -1), -3);
        }
    }

    private static void othersBeforeRoom() {
        for (int kind : Made.NOT_REAL) {
            DUE.refused("a 65th", () -> Made.full(kind), x -> x.addReal(0, 0, 0), -3);
        }
    }

    private static void realBoundsBeforeRoom() {
        DUE.refused("time -1", () -> Made.full(Made.REAL), x -> x.addReal(0, -1, 0), -2);
        DUE.refused("time 1000001", () -> Made.full(Made.REAL), x -> x.addReal(0, 1000001, 0), -2);
        DUE.refused("infinite", () -> Made.full(Made.REAL), x -> x.addReal(0, 0, Made.INFINITE), -2);
        DUE.refused("no number", () -> Made.full(Made.REAL), x -> x.addReal(0, 0, -1), -2);
    }
}
