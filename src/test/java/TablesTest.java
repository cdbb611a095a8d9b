/** Promises 18 to 20: start, step, join; and what 'Terms' says of THE TABLES. */
public final class TablesTest {
    private static final Due DUE = new Due();
    private static final int[] NO_STATES = {-1, 8, Integer.MIN_VALUE, Integer.MAX_VALUE};
    private static final int[] NO_VALUES = {-1, 4, 7, Integer.MIN_VALUE, Integer.MAX_VALUE};

    public static void main(String[] args) {
        DUE.sentence("Terms: at first all 0", TablesTest::atFirst);
        DUE.sentence("Terms: THE TABLES (of all OWN folds)", TablesTest::ofAllFolds);
        DUE.sentence("Terms: THE TABLES of one object alone", TablesTest::ofOneObject);
        DUE.sentence("18 start: START is s: what it was", TablesTest::start);
        DUE.sentence("18 start: the states 0 to 7", TablesTest::everyStart);
        DUE.sentence("18 start: -2", TablesTest::noStart);
        DUE.sentence("19 step: STEP(s, v) is to: what it was", TablesTest::step);
        DUE.sentence("19 step: of each state and each VALUE its own", TablesTest::everyStep);
        DUE.sentence("19 step: -2 s", TablesTest::noStateOfStep);
        DUE.sentence("19 step: -2 v", TablesTest::noValueOfStep);
        DUE.sentence("19 step: -2 to", TablesTest::noStateAfterStep);
        DUE.sentence("20 join: JOIN(s, t) is to: what it was", TablesTest::join);
        DUE.sentence("20 join: of each two states its own", TablesTest::everyJoin);
        DUE.sentence("20 join: -2 s", TablesTest::noFirstOfJoin);
        DUE.sentence("20 join: -2 t", TablesTest::noSecondOfJoin);
        DUE.sentence("20 join: -2 to", TablesTest::noStateAfterJoin);
        DUE.end();
    }

    private static void atFirst() {
        ExactFolds x = new ExactFolds();
        DUE.answer("start", x.start(0), 0);
        for (int s = 0; s < 8; s++) {
            for (int v = 0; v < 4; v++) {
                DUE.answer("step", x.step(s, v, 7), 0);
            }
            for (int t = 0; t < 8; t++) {
                DUE.answer("join", x.join(s, t, 7), 0);
            }
        }
    }

    private static void ofAllFolds() {
        ExactFolds x = Made.with(Made.OWN, Made.OWN);
        x.step(0, 3, 3);
        x.step(0, 2, 2);
        x.add(0, 0, 3);
        x.add(1, 0, 2);
        DUE.answer("state of one", x.state(0), 3);
        DUE.answer("state of the other", x.state(1), 2);
        x.start(4);
        x.step(4, 3, 7);
        x.step(4, 2, 6);
        DUE.answer("state of one", x.state(0), 7);
        DUE.answer("state of the other", x.state(1), 6);
        x.fold(Made.OWN);
        DUE.answer("state of a new one", x.state(2), 4);
    }

    private static void ofOneObject() {
        ExactFolds x = Made.with(Made.OWN);
        x.start(5);
        x.step(1, 1, 5);
        x.join(1, 1, 5);
        ExactFolds y = Made.with(Made.OWN);
        DUE.answer("start", y.start(1), 0);
        DUE.answer("step", y.step(1, 1, 1), 0);
        DUE.answer("join", y.join(1, 1, 1), 0);
        DUE.answer("start of the first", x.start(0), 5);
        DUE.answer("step of the first", x.step(1, 1, 0), 5);
        DUE.answer("join of the first", x.join(1, 1, 0), 5);
    }

    private static void start() {
        ExactFolds x = Made.with(Made.OWN);
        DUE.answer("start", x.start(3), 0);
        DUE.answer("it is", x.state(0), 3);
        DUE.answer("start", x.start(3), 3);
        DUE.answer("start", x.start(0), 3);
        DUE.answer("it is", x.state(0), 0);
    }

    private static void everyStart() {
        ExactFolds x = new ExactFolds();
        for (int s = 1; s < 8; s++) {
            DUE.answer("start(" + s + ")", x.start(s), s - 1);
        }
        DUE.answer("start(0)", x.start(0), 7);
    }

    private static void noStart() {
        for (int s : NO_STATES) {
            DUE.refused("start(" + s + ")", Made::allKinds, x -> x.start(s), -2);
        }
    }

    private static void step() {
        ExactFolds x = Made.with(Made.OWN);
        x.add(0, 0, 2);
        DUE.answer("step", x.step(0, 2, 6), 0);
        DUE.answer("it is", x.state(0), 6);
        DUE.answer("step", x.step(0, 2, 6), 6);
        DUE.answer("step", x.step(0, 2, 1), 6);
        DUE.answer("it is", x.state(0), 1);
    }

    private static void everyStep() {
        ExactFolds x = new ExactFolds();
        for (int round = 0; round < 8; round++) {
            for (int at = 0; at < 32; at++) {
                int was = round == 0 ? 0 : (3 * at + at / 4 + round - 1) % 8;
                DUE.answer("STEP " + at, x.step(at / 4, at % 4, (3 * at + at / 4 + round) % 8), was);
            }
        }
    }

    private static void noStateOfStep() {
        for (int s : NO_STATES) {
            DUE.refused("step(" + s + ", 0, 0)", Made::allKinds, x -> x.step(s, 0, 0), -2);
            DUE.refused("step(" + s + ", 3, 7)", Made::allKinds, x -> x.step(s, 3, 7), -2);
        }
    }

    private static void noValueOfStep() {
        for (int v : NO_VALUES) {
            DUE.refused("step(0, " + v + ", 0)", Made::allKinds, x -> x.step(0, v, 0), -2);
            DUE.refused("step(1, " + v + ", 7)", Made::allKinds, x -> x.step(1, v, 7), -2);
            DUE.refused("step(7, " + v + ", 7)", Made::allKinds, x -> x.step(7, v, 7), -2);
        }
    }

    private static void noStateAfterStep() {
        for (int to : NO_STATES) {
            DUE.refused("step(0, 0, " + to + ")", Made::allKinds, x -> x.step(0, 0, to), -2);
            DUE.refused("step(1, 2, " + to + ")", Made::allKinds, x -> x.step(1, 2, to), -2);
        }
    }

    private static void join() {
        ExactFolds x = Made.with(Made.OWN);
        x.step(0, 1, 1);
        x.step(0, 2, 2);
        x.add(0, 0, 1);
        x.add(0, 1, 2);
        DUE.answer("join", x.join(1, 2, 6), 0);
        DUE.answer("it is", x.joined(0, 1), 6);
        DUE.answer("join", x.join(1, 2, 6), 6);
        DUE.answer("join", x.join(1, 2, 5), 6);
        DUE.answer("it is", x.joined(0, 1), 5);
        DUE.answer("the other way round", x.join(2, 1, 3), 0);
        DUE.answer("it stays", x.joined(0, 1), 5);
    }

    private static void everyJoin() {
        ExactFolds x = new ExactFolds();
        for (int round = 0; round < 7; round++) {
            for (int at = 0; at < 64; at++) {
                int was = round == 0 ? 0 : (5 * at + at / 8 + round - 1) % 8;
                DUE.answer("JOIN " + at, x.join(at / 8, at % 8, (5 * at + at / 8 + round) % 8), was);
            }
        }
    }

    private static void noFirstOfJoin() {
        for (int s : NO_STATES) {
            DUE.refused("join(" + s + ", 0, 0)", Made::allKinds, x -> x.join(s, 0, 0), -2);
            DUE.refused("join(" + s + ", 7, 7)", Made::allKinds, x -> x.join(s, 7, 7), -2);
        }
    }

    private static void noSecondOfJoin() {
        for (int t : NO_STATES) {
            DUE.refused("join(0, " + t + ", 0)", Made::allKinds, x -> x.join(0, t, 0), -2);
            DUE.refused("join(1, " + t + ", 7)", Made::allKinds, x -> x.join(1, t, 7), -2);
            DUE.refused("join(7, " + t + ", 7)", Made::allKinds, x -> x.join(7, t, 7), -2);
        }
    }

    private static void noStateAfterJoin() {
        for (int to : NO_STATES) {
            DUE.refused("join(0, 0, " + to + ")", Made::allKinds, x -> x.join(0, 0, to), -2);
            DUE.refused("join(3, 5, " + to + ")", Made::allKinds, x -> x.join(3, 5, to), -2);
        }
    }
}
