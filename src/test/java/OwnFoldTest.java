/** Promises 18 to 23: start, step, join, state, check, joined. */
public final class OwnFoldTest {
    private static final Due DUE = new Due();
    private static final int[] NO_STATES = {-1, 8, Integer.MIN_VALUE, Integer.MAX_VALUE};

    public static void main(String[] args) {
        start();
        step();
        join();
        tablesStandApart();
        state();
        checkOfSound();
        checkBounds();
        checkOrder();
        checkOfReachedAlone();
        checkOfEachValue();
        checkReachesFar();
        joinedWays();
        joinedHalves();
        refusals();
        DUE.end();
    }

    /** Sums modulo 8 of the values: every way of joining tells the state. */
    private static ExactFolds sums() {
        ExactFolds x = new ExactFolds();
        x.fold(4);
        for (int s = 0; s < 8; s++) {
            for (int v = 0; v < 4; v++) {
                x.step(s, v, (s + v) % 8);
            }
            for (int t = 0; t < 8; t++) {
                x.join(s, t, (s + t) % 8);
            }
        }
        return x;
    }

    private static void start() {
        ExactFolds x = new ExactFolds();
        DUE.answer("start", x.start(7), 0);
        for (int s : NO_STATES) {
            DUE.answer("start(" + s + ")", x.start(s), -2);
        }
        DUE.answer("start", x.start(3), 7);
        DUE.answer("start", x.start(3), 3);
        DUE.answer("start", x.start(0), 3);
    }

    private static void step() {
        ExactFolds x = new ExactFolds();
        for (int s = 0; s < 8; s++) {
            for (int v = 0; v < 4; v++) {
                DUE.answer("at first 0", x.step(s, v, (3 * s + v + 1) % 8), 0);
            }
        }
        for (int bad : NO_STATES) {
            DUE.answer("step of no state", x.step(bad, 0, 0), -2);
            DUE.answer("step to no state", x.step(0, 0, bad), -2);
        }
        for (int bad : new int[] {-1, 4, 8, Integer.MIN_VALUE, Integer.MAX_VALUE}) {
            DUE.answer("step of no value", x.step(0, bad, 0), -2);
        }
        for (int s = 0; s < 8; s++) {
            for (int v = 0; v < 4; v++) {
                DUE.answer("what it was", x.step(s, v, 0), (3 * s + v + 1) % 8);
            }
        }
    }

    private static void join() {
        ExactFolds x = new ExactFolds();
        for (int s = 0; s < 8; s++) {
            for (int t = 0; t < 8; t++) {
                DUE.answer("at first 0", x.join(s, t, (3 * s + 5 * t + 1) % 8), 0);
            }
        }
        for (int bad : NO_STATES) {
            DUE.answer("join of no s", x.join(bad, 0, 0), -2);
            DUE.answer("join of no t", x.join(0, bad, 0), -2);
            DUE.answer("join to no state", x.join(0, 0, bad), -2);
        }
        for (int s = 0; s < 8; s++) {
            for (int t = 0; t < 8; t++) {
                DUE.answer("what it was", x.join(s, t, 0), (3 * s + 5 * t + 1) % 8);
            }
        }
    }

    private static void tablesStandApart() {
        ExactFolds x = sums();
        ExactFolds y = new ExactFolds();
        DUE.answer("another object's step", y.step(1, 1, 0), 0);
        DUE.answer("another object's join", y.join(1, 1, 0), 0);
        DUE.answer("another object's start", y.start(1), 0);
        x.fold(4);
        x.add(0, 0, 3);
        x.add(1, 0, 2);
        DUE.answer("one set of tables for all folds", x.state(0), 3);
        DUE.answer("one set of tables for all folds", x.state(1), 2);
        x.start(4);
        DUE.answer("one set of tables for all folds", x.state(0), 7);
        DUE.answer("one set of tables for all folds", x.state(1), 6);
    }

    private static void state() {
        ExactFolds x = new ExactFolds();
        x.fold(4);
        x.start(5);
        DUE.answer("START without rows", x.state(0), 5);
        x.step(5, 1, 6);
        x.step(6, 2, 7);
        x.step(5, 2, 1);
        x.step(1, 1, 2);
        x.step(7, 0, 3);
        x.add(0, 4, 2);
        DUE.answer("one row", x.state(0), 1);
        x.add(0, 4, 1);
        DUE.answer("of one time by value", x.state(0), 7);
        x.remove(0, 4, 1);
        x.add(0, 9, 1);
        DUE.answer("by time", x.state(0), 2);
        x.remove(0, 9, 1);
        x.add(0, 0, 1);
        x.add(0, 1000000, 0);
        DUE.answer("three rows", x.state(0), 3);
        x.step(7, 0, 4);
        DUE.answer("tables changed later", x.state(0), 4);
        x.start(0);
        DUE.answer("start changed later", x.state(0), 0);
    }

    private static void checkIs(ExactFolds x, int which, int s, int t, int v) {
        DUE.answer("check(0)", x.check(0), which);
        DUE.answer("check(1)", x.check(1), s);
        DUE.answer("check(2)", x.check(2), t);
        DUE.answer("check(3)", x.check(3), v);
    }

    private static void checkOfSound() {
        checkIs(new ExactFolds(), 0, -3, -3, -3);
        checkIs(sums(), 0, -3, -3, -3);
    }

    private static void checkBounds() {
        ExactFolds x = new ExactFolds();
        for (int round = 0; round < 2; round++) {
            for (int what : new int[] {-1, 4, Integer.MIN_VALUE, Integer.MAX_VALUE}) {
                DUE.answer("check(" + what + ")", x.check(what), -2);
            }
            x.step(0, 0, 1);
        }
    }

    private static void checkOrder() {
        ExactFolds x = sums();
        x.join(3, 0, 4);
        checkIs(x, 1, 3, -3, -3);
        x.join(2, 5, 0);
        checkIs(x, 2, 2, 2, 3);
        x.join(2, 0, 1);
        checkIs(x, 1, 2, -3, -3);
        x.join(0, 7, 6);
        checkIs(x, 2, 0, 4, 3);
        x.join(0, 1, 2);
        checkIs(x, 2, 0, 0, 1);
        x.join(0, 0, 1);
        checkIs(x, 1, 0, -3, -3);
        x.join(0, 0, 0);
        x.join(0, 1, 1);
        x.join(0, 7, 7);
        x.join(2, 0, 2);
        x.join(2, 5, 7);
        checkIs(x, 1, 3, -3, -3);
        x.join(3, 0, 3);
        checkIs(x, 0, -3, -3, -3);
        x.join(7, 7, 5);
        checkIs(x, 2, 7, 4, 3);
        x.join(7, 7, 6);
        x.start(1);
        checkIs(x, 1, 0, -3, -3);
    }

    private static void checkOfReachedAlone() {
        ExactFolds x = new ExactFolds();
        x.join(0, 1, 5);
        x.join(1, 0, 5);
        x.step(1, 1, 6);
        checkIs(x, 0, -3, -3, -3);
        x.start(1);
        checkIs(x, 1, 0, -3, -3);
        x.join(0, 1, 0);
        checkIs(x, 1, 1, -3, -3);
        x.join(1, 1, 1);
        checkIs(x, 2, 1, 0, 0);
    }

    private static void checkOfEachValue() {
        for (int v = 0; v < 4; v++) {
            ExactFolds x = new ExactFolds();
            x.start(1);
            x.join(1, 1, 1);
            x.join(1, 3, 3);
            for (int any = 0; any < 4; any++) {
                x.step(1, any, 1);
                x.step(3, any, 3);
            }
            checkIs(x, 0, -3, -3, -3);
            // 3, which alone is wrong, is reached through v alone.
            x.step(1, v, 3);
            checkIs(x, 1, 3, -3, -3);
            x.join(3, 1, 3);
            x.join(3, 3, 3);
            checkIs(x, 0, -3, -3, -3);
        }
    }

    private static void checkReachesFar() {
        // 7 to 0 in seven steps downward: the last reached state alone is wrong.
        ExactFolds x = new ExactFolds();
        x.start(7);
        for (int s = 0; s < 8; s++) {
            for (int v = 0; v < 4; v++) {
                x.step(s, v, s == 0 ? 0 : v == 3 ? s - 1 : s);
            }
            for (int t = 0; t < 8; t++) {
                x.join(s, t, Math.max(0, s + t - 7));
            }
        }
        checkIs(x, 0, -3, -3, -3);
        x.join(0, 7, 1);
        checkIs(x, 1, 0, -3, -3);
        x.step(1, 3, 1);
        x.join(1, 6, 1);
        // 0, which is wrong yet, is no more reached.
        checkIs(x, 2, 1, 6, 3);
    }

    private static void joinedIs(ExactFolds x, int halves, int left, int right) {
        DUE.answer("joined(0, 0)", x.joined(0, 0), halves);
        DUE.answer("joined(0, 1)", x.joined(0, 1), left);
        DUE.answer("joined(0, 2)", x.joined(0, 2), right);
    }

    private static void joinedWays() {
        ExactFolds x = sums();
        joinedIs(x, 0, 0, 0);
        for (int i = 0; i < 64; i++) {
            x.add(0, i * 37 % 64, i % 4);
            int state = x.state(0);
            joinedIs(x, state, state, state);
        }
        ExactFolds y = new ExactFolds();
        y.fold(4);
        y.start(6);
        joinedIs(y, 6, 6, 6);
        y.step(6, 2, 3);
        y.join(6, 3, 1);
        y.join(3, 6, 2);
        y.add(0, 5, 2);
        joinedIs(y, 3, 3, 3);
        y.step(6, 1, 4);
        y.add(0, 9, 1);
        y.join(3, 4, 7);
        y.join(4, 3, 5);
        joinedIs(y, 7, 7, 7);
        y.remove(0, 9, 1);
        y.add(0, 5, 1);
        joinedIs(y, 5, 5, 5);
    }

    private static void joinedHalves() {
        // JOIN(s, t) = s - t modulo 8 tells where the brackets stand.
        ExactFolds x = new ExactFolds();
        x.fold(4);
        for (int s = 0; s < 8; s++) {
            for (int v = 0; v < 4; v++) {
                x.step(s, v, (s + v) % 8);
            }
            for (int t = 0; t < 8; t++) {
                x.join(s, t, (s - t + 8) % 8);
            }
        }
        int[] values = {3, 1, 2, 3, 3};
        int[] halves = {3, 2, 4, 3, 0};
        int[] left = {3, 2, 0, 5, 2};
        int[] right = {3, 2, 4, 1, 4};
        for (int i = 0; i < values.length; i++) {
            x.add(0, i, values[i]);
            joinedIs(x, halves[i], left[i], right[i]);
        }
    }

    private static void refusals() {
        ExactFolds x = new ExactFolds();
        for (int kind = 0; kind < 5; kind++) {
            x.fold(kind);
        }
        for (int f = 0; f < 4; f++) {
            DUE.answer("state of another kind", x.state(f), -3);
            DUE.answer("joined of another kind", x.joined(f, 0), -3);
            DUE.answer("-3 before -2", x.joined(f, 3), -3);
        }
        for (int f : new int[] {-1, 5, 12, Integer.MIN_VALUE, Integer.MAX_VALUE}) {
            DUE.answer("state of none", x.state(f), -1);
            DUE.answer("joined of none", x.joined(f, 0), -1);
            DUE.answer("-1 before -2", x.joined(f, -1), -1);
        }
        for (int way : new int[] {-1, 3, Integer.MIN_VALUE, Integer.MAX_VALUE}) {
            DUE.answer("no such way, no rows", x.joined(4, way), -2);
            x.add(4, 0, 1);
            DUE.answer("no such way", x.joined(4, way), -2);
        }
    }
}
