/** Promises 21 to 23: state, check, joined; and what 'Terms' says of REACHED and THE STATE. */
public final class OwnFoldTest {
    private static final Due DUE = new Due();
    private static final int NONE = -3;
    private static final int[] NO_WAYS = {-1, 3, Integer.MIN_VALUE, Integer.MAX_VALUE};
    private static final int[] NOT_OWN = {Made.WIDE, Made.REAL, Made.SPREAD, Made.ORDERED};

    public static void main(String[] args) {
        DUE.sentence("21 state: START without ROWS", OwnFoldTest::stateWithoutRows);
        DUE.sentence("21 state: STEP of it and the VALUE", OwnFoldTest::stateBySteps);
        DUE.sentence("21 state: IN ORDER", OwnFoldTest::stateInOrder);
        DUE.sentence("21 state: of 64 ROWS", OwnFoldTest::stateOfFull);
        DUE.sentence("21 state: by the tables as they are now", OwnFoldTest::stateNow);
        DUE.sentence("21 state: -1", OwnFoldTest::stateOfNoFold);
        DUE.sentence("21 state: -3", OwnFoldTest::stateOfOthers);
        DUE.sentence("22 check: 0: none", OwnFoldTest::noneIsWrong);
        DUE.sentence("22 check: -3 none is wrong (1 to 3)", OwnFoldTest::noneIsTold);
        DUE.sentence("22 check: 1 JOIN(s, START) is not s", OwnFoldTest::ruleOne);
        DUE.sentence("22 check: -3 of 1 there is no such number", OwnFoldTest::numbersOfRuleOne);
        DUE.sentence("22 check: 2 JOIN(s, STEP(t, v)) is not STEP(JOIN(s, t), v)", OwnFoldTest::ruleTwo);
        DUE.sentence("22 check: The first that is wrong, by s", OwnFoldTest::firstByS);
        DUE.sentence("22 check: of one s rule 1, then rule 2", OwnFoldTest::ruleOneFirst);
        DUE.sentence("22 check: of one s rule 2 by t", OwnFoldTest::firstByT);
        DUE.sentence("22 check: of one s and t rule 2 by v", OwnFoldTest::firstByV);
        DUE.sentence("22 check: s being REACHED", OwnFoldTest::reachedS);
        DUE.sentence("22 check: t being REACHED", OwnFoldTest::reachedT);
        DUE.sentence("Terms: REACHED are START", OwnFoldTest::reachedStart);
        DUE.sentence("Terms: REACHED are STEPs of what is REACHED, by each VALUE", OwnFoldTest::reachedByEachValue);
        DUE.sentence("Terms: REACHED, seven steps far", OwnFoldTest::reachedFar);
        DUE.sentence("22 check: JOIN(s, t) need not be REACHED", OwnFoldTest::joinNotReached);
        DUE.sentence("22 check: -2", OwnFoldTest::noSuchWhat);
        DUE.sentence("23 joined: START without ROWS", OwnFoldTest::joinedWithoutRows);
        DUE.sentence("23 joined: For each ROW STEP(START, VALUE)", OwnFoldTest::joinedOfOne);
        DUE.sentence("23 joined: IN ORDER; these joined two and two", OwnFoldTest::joinedOfTwo);
        DUE.sentence("23 joined: way 0: the first half (n / 2), with what is left", OwnFoldTest::joinedHalves);
        DUE.sentence("23 joined: 1: from the left", OwnFoldTest::joinedFromLeft);
        DUE.sentence("23 joined: 2: from the right", OwnFoldTest::joinedFromRight);
        DUE.sentence("23 joined: 1 to 64 ROWS, where all ways of joining are one", OwnFoldTest::joinedOfAnyNumber);
        DUE.sentence("23 joined: 64 ROWS, where they are not", OwnFoldTest::joinedOfFull);
        DUE.sentence("23 joined: -1", OwnFoldTest::joinedOfNoFold);
        DUE.sentence("23 joined: -3", OwnFoldTest::joinedOfOthers);
        DUE.sentence("23 joined: -2", OwnFoldTest::noSuchWay);
        DUE.sentence("23 joined: -1 before -2", OwnFoldTest::noFoldBeforeWay);
        DUE.sentence("23 joined: -3 before -2", OwnFoldTest::kindBeforeWay);
        DUE.end();
    }

    /** Sums modulo 8 of the values: every way of joining tells the state. 97 calls. */
    private static ExactFolds sums() {
        ExactFolds x = Made.with(Made.OWN);
        for (int s = 0; s < 8; s++) {
            for (int v = 0; v < 4; v++) {
                x.step(s, v, (s + v) % 8);
            }
            for (int t = 0; t < 8; t++) {
                x.join(s, t, (s + t) % 8);
            }
        }
        return x;
    }

    /** JOIN(s, t) = s - t modulo 8 tells where the brackets stand. 161 calls. */
    private static ExactFolds differences() {
        ExactFolds x = sums();
        for (int s = 0; s < 8; s++) {
            for (int t = 0; t < 8; t++) {
                x.join(s, t, (s - t + 8) % 8);
            }
        }
        return x;
    }

    private static void addAll(ExactFolds x, int... values) {
        for (int i = 0; i < values.length; i++) {
            x.add(0, i, values[i]);
        }
    }

    private static void checkIs(ExactFolds x, int which, int s, int t, int v) {
        DUE.answer("check(0)", x.check(0), which);
        DUE.answer("check(1)", x.check(1), s);
        DUE.answer("check(2)", x.check(2), t);
        DUE.answer("check(3)", x.check(3), v);
    }

    private static void stateWithoutRows() {
        ExactFolds x = Made.with(Made.OWN);
        DUE.answer("at first", x.state(0), 0);
        for (int s = 0; s < 8; s++) {
            x.start(s);
            DUE.answer("START " + s, x.state(0), s);
        }
        x.add(0, 0, 0);
        x.remove(0, 0, 0);
        DUE.answer("none any more", x.state(0), 7);
    }

    private static void stateBySteps() {
        ExactFolds x = Made.with(Made.OWN);
        x.start(5);
        x.step(5, 1, 6);
        x.step(6, 2, 7);
        x.step(7, 0, 3);
        x.add(0, 0, 1);
        DUE.answer("one row", x.state(0), 6);
        x.add(0, 1, 2);
        DUE.answer("two rows", x.state(0), 7);
        x.add(0, 2, 0);
        DUE.answer("three rows", x.state(0), 3);
        x.add(0, 3, 3);
        DUE.answer("a step that is 0 yet", x.state(0), 0);
    }

    private static void stateInOrder() {
        ExactFolds x = Made.with(Made.OWN);
        x.step(0, 1, 1);
        x.step(0, 2, 2);
        x.step(1, 2, 3);
        x.step(2, 1, 4);
        x.add(0, 4, 2);
        x.add(0, 4, 1);
        DUE.answer("of one time by value", x.state(0), 3);
        x.remove(0, 4, 1);
        x.add(0, 1000000, 1);
        DUE.answer("by time", x.state(0), 4);
        x.remove(0, 1000000, 1);
        x.add(0, 0, 1);
        DUE.answer("by time", x.state(0), 3);
    }

    private static void stateOfFull() {
        ExactFolds x = sums();
        int sum = 0;
        for (int i = 0; i < 64; i++) {
            x.add(0, 63 - i, 3);
            sum += 3;
            DUE.answer(i + 1 + " rows", x.state(0), sum % 8);
        }
    }

    private static void stateNow() {
        ExactFolds x = Made.with(Made.OWN);
        x.add(0, 0, 3);
        DUE.answer("before", x.state(0), 0);
        x.step(0, 3, 4);
        DUE.answer("another STEP", x.state(0), 4);
        x.step(2, 3, 6);
        x.start(2);
        DUE.answer("another START", x.state(0), 6);
    }

    private static void stateOfNoFold() {
        for (int f : Made.NO_FOLDS) {
            DUE.refused("state(" + f + ")", Made::allKinds, x -> x.state(f), -1);
        }
    }

    private static void stateOfOthers() {
        for (int f : NOT_OWN) {
            DUE.refused("state(" + f + ")", Made::allKinds, x -> x.state(f), -3);
            DUE.refused("without rows", Made::emptyOfAllKinds, x -> x.state(f), -3);
        }
    }

    private static void noneIsWrong() {
        DUE.answer("tables as at first", new ExactFolds().check(0), 0);
        DUE.answer("sums", sums().check(0), 0);
    }

    private static void noneIsTold() {
        for (int i = 1; i < 4; i++) {
            int what = i;
            DUE.refused("tables as at first", ExactFolds::new, x -> x.check(what), -3);
            DUE.refused("sums", OwnFoldTest::sums, x -> x.check(what), -3);
        }
        ExactFolds y = sums();
        y.join(0, 0, 1);
        y.check(1);
        y.join(0, 0, 0);
        checkIs(y, 0, NONE, NONE, NONE);
    }

    private static void ruleOne() {
        for (int s = 0; s < 8; s++) {
            ExactFolds x = sums();
            x.join(s, 0, (s + 1) % 8);
            DUE.answer("which", x.check(0), 1);
            DUE.answer("s", x.check(1), s);
        }
        ExactFolds y = new ExactFolds();
        y.start(3);
        DUE.answer("JOIN(0, 3) is 0, of START 3", y.check(0), 1);
        DUE.answer("s", y.check(1), 3);
    }

    private static void numbersOfRuleOne() {
        for (int s = 0; s < 8; s++) {
            ExactFolds x = sums();
            x.join(s, 0, (s + 1) % 8);
            DUE.answer("t", x.check(2), -3);
            DUE.answer("v", x.check(3), -3);
        }
    }

    private static void ruleTwo() {
        // One JOIN(s, t) alone is wrong: so are the first state and VALUE whose STEP is t.
        ExactFolds x = sums();
        x.join(2, 5, 0);
        checkIs(x, 2, 2, 2, 3);
        x.join(2, 5, 7);
        x.join(7, 7, 5);
        checkIs(x, 2, 7, 4, 3);
        x.join(7, 7, 6);
        x.join(0, 1, 0);
        checkIs(x, 2, 0, 0, 1);
        x.join(0, 1, 1);
        checkIs(x, 0, NONE, NONE, NONE);
        x.step(7, 3, 1);
        checkIs(x, 2, 1, 6, 3);
    }

    private static void firstByS() {
        ExactFolds x = sums();
        x.join(6, 0, 0);
        checkIs(x, 1, 6, NONE, NONE);
        x.join(5, 7, 0);
        checkIs(x, 2, 5, 4, 3);
        x.join(4, 0, 0);
        checkIs(x, 1, 4, NONE, NONE);
        x.join(3, 7, 0);
        checkIs(x, 2, 3, 4, 3);
        x.join(0, 7, 0);
        checkIs(x, 2, 0, 4, 3);
    }

    private static void ruleOneFirst() {
        for (int s = 0; s < 8; s++) {
            ExactFolds x = sums();
            x.join(s, 1, (s + 5) % 8);
            checkIs(x, 2, s, 0, 1);
            x.join(s, 0, (s + 5) % 8);
            checkIs(x, 1, s, NONE, NONE);
        }
    }

    private static void firstByT() {
        ExactFolds x = sums();
        x.join(3, 7, 0);
        checkIs(x, 2, 3, 4, 3);
        x.join(3, 6, 0);
        checkIs(x, 2, 3, 3, 3);
        x.join(3, 4, 0);
        checkIs(x, 2, 3, 1, 3);
        x.join(3, 3, 0);
        checkIs(x, 2, 3, 0, 3);
    }

    private static void firstByV() {
        // STEP(s, v) is s + v + 1, so that each v leads elsewhere: STEP(0, v) is v + 1.
        ExactFolds x = sums();
        for (int at = 0; at < 32; at++) {
            x.step(at / 4, at % 4, (at / 4 + at % 4 + 1) % 8);
        }
        checkIs(x, 0, NONE, NONE, NONE);
        for (int v = 3; v >= 0; v--) {
            x.join(3, v + 1, 0);
            checkIs(x, 2, 3, 0, v);
        }
    }

    private static void reachedS() {
        // 0 alone is reached: what is wrong of 1 to 7 is not told.
        for (int s = 1; s < 8; s++) {
            ExactFolds x = new ExactFolds();
            x.join(s, 0, (s + 1) % 8);
            x.step(s, 1, 5);
            checkIs(x, 0, NONE, NONE, NONE);
            x.step(0, 3, s);
            DUE.answer("reached now", x.check(0) != 0, true);
        }
    }

    private static void reachedT() {
        for (int t = 1; t < 8; t++) {
            ExactFolds x = new ExactFolds();
            // JOIN(0, STEP(t, 2)) is not STEP(JOIN(0, t), 2), but 0 alone is reached.
            x.join(0, t, t == 7 ? 1 : t + 1);
            x.step(t, 2, t);
            checkIs(x, 0, NONE, NONE, NONE);
            x.step(0, 3, t);
            checkIs(x, 2, 0, 0, 3);
        }
    }

    private static void reachedStart() {
        for (int s = 0; s < 8; s++) {
            ExactFolds x = new ExactFolds();
            x.start(s);
            for (int v = 0; v < 4; v++) {
                x.step(s, v, s);
            }
            // s alone is reached.
            x.join(s, s, (s + 1) % 8);
            checkIs(x, 1, s, NONE, NONE);
            x.join(s, s, s);
            checkIs(x, 0, NONE, NONE, NONE);
        }
    }

    private static void reachedByEachValue() {
        for (int v = 0; v < 4; v++) {
            ExactFolds x = new ExactFolds();
            x.start(1);
            x.join(1, 1, 1);
            x.join(1, 3, 3);
            for (int any = 0; any < 4; any++) {
                x.step(1, any, 1);
                x.step(3, any, 3);
            }
            checkIs(x, 0, NONE, NONE, NONE);
            // 3, which alone is wrong, is reached through v alone.
            x.step(1, v, 3);
            checkIs(x, 1, 3, NONE, NONE);
            x.join(3, 1, 3);
            x.join(3, 3, 3);
            checkIs(x, 0, NONE, NONE, NONE);
        }
    }

    private static void reachedFar() {
        // 7 to 0 in seven steps downward: the last reached state alone is wrong.
        ExactFolds x = new ExactFolds();
        x.start(7);
        for (int s = 0; s < 8; s++) {
            for (int v = 0; v < 4; v++) {
                x.step(s, v, s == 0 ? 0 : v == 3 ? s - 1 : s);
            }
            for (int t = 0; t < 8; t++) {
                x.join(s, t, Math.max(0, s + t - 7));
            }
        }
        checkIs(x, 0, NONE, NONE, NONE);
        x.join(0, 7, 1);
        checkIs(x, 1, 0, NONE, NONE);
        x.step(1, 3, 1);
        x.join(1, 6, 1);
        // 0, which is wrong yet, is no more reached.
        checkIs(x, 2, 1, 6, 3);
    }

    private static void joinNotReached() {
        // Reached are 7, which is START, and 0; JOIN(0, 0) is 6, and the steps of 6 are looked at all the same.
        ExactFolds x = new ExactFolds();
        x.start(7);
        x.step(7, 0, 7);
        x.step(7, 1, 7);
        x.step(7, 2, 7);
        x.join(0, 0, 6);
        checkIs(x, 2, 0, 0, 0);
        for (int v = 0; v < 4; v++) {
            x.step(6, v, 6);
        }
        // Now they hold, and JOIN(0, STEP(7, 3)) is the first that is wrong.
        checkIs(x, 2, 0, 7, 3);
        x.step(6, 2, 5);
        checkIs(x, 2, 0, 0, 2);
    }

    private static void noSuchWhat() {
        for (int what : new int[] {-1, 4, Integer.MIN_VALUE, Integer.MAX_VALUE}) {
            DUE.refused("none is wrong", ExactFolds::new, x -> x.check(what), -2);
            DUE.refused("some are wrong", Made::allKinds, x -> x.check(what), -2);
        }
    }

    private static void joinedIs(ExactFolds x, int halves, int left, int right) {
        DUE.answer("joined(0, 0)", x.joined(0, 0), halves);
        DUE.answer("joined(0, 1)", x.joined(0, 1), left);
        DUE.answer("joined(0, 2)", x.joined(0, 2), right);
    }

    private static void joinedWithoutRows() {
        for (int s = 0; s < 8; s++) {
            ExactFolds x = Made.with(Made.OWN);
            x.start(s);
            joinedIs(x, s, s, s);
            x.add(0, 0, 1);
            x.remove(0, 0, 1);
            joinedIs(x, s, s, s);
        }
    }

    private static void joinedOfOne() {
        for (int v = 0; v < 4; v++) {
            ExactFolds x = Made.with(Made.OWN);
            x.start(6);
            x.step(6, v, 3);
            x.step(0, v, 1);
            x.join(6, 3, 2);
            x.join(3, 6, 4);
            x.add(0, 5, v);
            joinedIs(x, 3, 3, 3);
        }
    }

    private static void joinedOfTwo() {
        ExactFolds x = Made.with(Made.OWN);
        x.start(6);
        x.step(6, 1, 4);
        x.step(6, 2, 3);
        x.join(3, 4, 7);
        x.join(4, 3, 5);
        x.add(0, 5, 2);
        x.add(0, 9, 1);
        joinedIs(x, 7, 7, 7);
        x.remove(0, 9, 1);
        x.add(0, 5, 1);
        joinedIs(x, 5, 5, 5);
        x.remove(0, 5, 1);
        x.add(0, 0, 1);
        joinedIs(x, 5, 5, 5);
    }

    private static void halvesAre(int want, int... values) {
        ExactFolds x = differences();
        addAll(x, values);
        DUE.answer(values.length + " rows", x.joined(0, 0), want);
    }

    private static void joinedHalves() {
        halvesAre(3, 3);
        halvesAre(2, 3, 1);
        // 3 - (1 - 2): the first half of three is one.
        halvesAre(4, 3, 1, 2);
        // (3 - 1) - (2 - 3)
        halvesAre(3, 3, 1, 2, 3);
        // (3 - 1) - (2 - (3 - 3))
        halvesAre(0, 3, 1, 2, 3, 3);
        // (3 - (1 - 2)) - (3 - (3 - 1))
        halvesAre(3, 3, 1, 2, 3, 3, 1);
        // (3 - (1 - 2)) - ((3 - 3) - (1 - 2))
        halvesAre(3, 3, 1, 2, 3, 3, 1, 2);
    }

    private static void joinedFromLeft() {
        int[] values = {3, 1, 2, 3, 3};
        int[] want = {3, 2, 0, 5, 2};
        ExactFolds x = differences();
        for (int i = 0; i < values.length; i++) {
            x.add(0, i, values[i]);
            DUE.answer(i + 1 + " rows", x.joined(0, 1), want[i]);
        }
    }

    private static void joinedFromRight() {
        int[] values = {3, 1, 2, 3, 3};
        int[] want = {3, 2, 4, 1, 4};
        ExactFolds x = differences();
        for (int i = 0; i < values.length; i++) {
            x.add(0, i, values[i]);
            DUE.answer(i + 1 + " rows", x.joined(0, 2), want[i]);
        }
    }

    private static void joinedOfAnyNumber() {
        ExactFolds x = sums();
        int sum = 0;
        for (int i = 0; i < 64; i++) {
            x.add(0, i * 37 % 64, i % 4);
            sum += i % 4;
            joinedIs(x, sum % 8, sum % 8, sum % 8);
        }
    }

    private static void joinedOfFull() {
        // Row i is 1 for i = 0 and 3 else: halves by turns of sign as i has an odd number of bits,
        // from the left 1 - 63 * 3, from the right 1 - 3 + 3 - .. - 3.
        ExactFolds x = differences();
        int halves = 0;
        for (int i = 0; i < 64; i++) {
            int v = i == 0 ? 1 : 3;
            x.add(0, i, v);
            halves += Integer.bitCount(i) % 2 == 0 ? v : -v;
        }
        joinedIs(x, Math.floorMod(halves, 8), Math.floorMod(1 - 63 * 3, 8), Math.floorMod(1 - 3, 8));
    }

    private static void joinedOfNoFold() {
        for (int f : Made.NO_FOLDS) {
            for (int i = 0; i < 3; i++) {
                int way = i;
                DUE.refused("joined(" + f + ", " + way + ")", Made::allKinds, x -> x.joined(f, way), -1);
            }
        }
    }

    private static void joinedOfOthers() {
        for (int f : NOT_OWN) {
            for (int i = 0; i < 3; i++) {
                int way = i;
                DUE.refused("joined(" + f + ", " + way + ")", Made::allKinds, x -> x.joined(f, way), -3);
                DUE.refused("without rows", Made::emptyOfAllKinds, x -> x.joined(f, way), -3);
            }
        }
    }

    private static void noSuchWay() {
        for (int way : NO_WAYS) {
            DUE.refused("way " + way, Made::allKinds, x -> x.joined(Made.OWN, way), -2);
            DUE.refused("way " + way + " without rows", Made::emptyOfAllKinds, x -> x.joined(Made.OWN, way), -2);
        }
    }

    private static void noFoldBeforeWay() {
        for (int f : Made.NO_FOLDS) {
            for (int way : NO_WAYS) {
                DUE.refused("joined(" + f + ", " + way + ")", Made::allKinds, x -> x.joined(f, way), -1);
            }
        }
    }

    private static void kindBeforeWay() {
        for (int f : NOT_OWN) {
            for (int way : NO_WAYS) {
                DUE.refused("joined(" + f + ", " + way + ")", Made::allKinds, x -> x.joined(f, way), -3);
            }
        }
    }
}
