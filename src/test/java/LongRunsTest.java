/** All promises in long mixed runs of up to 512 calls, each answer held against the plain folds. */
public final class LongRunsTest {
    private static final int RUNS = 1500;
    // After its 512th call an object may answer what it likes; a round makes at most 4.
    private static final int MOST_CALLS = 508;
    private static final Due DUE = new Due();
    private static final long[] EDGES = {
        Long.MIN_VALUE, Long.MAX_VALUE, -1, 0, 1, 2, 3, 4, 1000000, 1000001, -1000000, -1000001,
        100000000000000000L, 100000000000000001L, -100000000000000000L, -100000000000000001L,
    };

    private final Numbers numbers;
    private final ExactFolds x = new ExactFolds();
    private final PlainFolds plain = new PlainFolds();
    private final int run;
    private final int manner;
    private int calls = 0;

    private LongRunsTest(int run) {
        this.run = run;
        this.numbers = new Numbers(run);
        this.manner = run % 7;
    }

    public static void main(String[] args) {
        for (int run = 0; run < RUNS; run++) {
            new LongRunsTest(run).go();
        }
        DUE.end();
    }

    private void go() {
        int folds = 1 + numbers.below(run % 3 == 0 ? 14 : 5);
        for (int i = 0; i < folds; i++) {
            int kind = run % 6 == 5 ? numbers.below(5) : run % 6;
            due("fold", x.fold(kind), plain.fold(kind));
        }
        if (run % 6 == 4 && run % 4 == 0) {
            addTables();
        }
        while (calls <= MOST_CALLS) {
            int which = numbers.below(100);
            if (which < 55) {
                rowCall(which);
            } else if (which < 70) {
                sumCall();
            } else if (which < 82) {
                valueCall();
            } else {
                ownCall();
            }
        }
    }

    private void due(String call, long got, long want) {
        calls++;
        DUE.answer("run " + run + ": " + call, got, want);
    }

    /** Tables that are almost sound, so that check() has to look far. */
    private void addTables() {
        int many = 1 + numbers.below(8);
        for (int s = 0; s < 8; s++) {
            for (int v = 0; v < 4; v++) {
                due("step", x.step(s, v, (s + v) % many), plain.step(s, v, (s + v) % many));
            }
            for (int t = 0; t < 8; t++) {
                due("join", x.join(s, t, (s + t) % many), plain.join(s, t, (s + t) % many));
            }
        }
    }

    private int someFold() {
        return numbers.below(20) == 0 ? numbers.below(16) - 2 : numbers.below(4);
    }

    private int someTime() {
        int which = numbers.below(30);
        return which == 0 ? -1 : which == 1 ? 1000001 : which == 2 ? 1000000 : numbers.below(3);
    }

    private long someValue() {
        int which = numbers.below(20);
        if (which == 0) {
            return EDGES[numbers.below(EDGES.length)];
        }
        return which < 3 ? numbers.next() >> numbers.below(64) : numbers.below(4);
    }

    private long someBits() {
        return numbers.below(20) == 0 ? numbers.next() | 0x7FF0000000000000L
            : numbers.below(10) == 0 ? numbers.next() & Long.MIN_VALUE : numbers.realBits(manner);
    }

    private void rowCall(int which) {
        int fold = someFold();
        int other = someFold();
        int time = someTime();
        long v = someValue();
        long bits = someBits();
        if (which < 35) {
            due("add", x.add(fold, time, v), plain.add(fold, time, v));
            due("addReal", x.addReal(fold, time, bits), plain.addReal(fold, time, bits));
        } else if (which < 45) {
            due("remove", x.remove(fold, time, v), plain.remove(fold, time, v, false));
            due("removeReal", x.removeReal(fold, time, bits), plain.remove(fold, time, bits, true));
        } else if (which < 48) {
            due("merge", x.merge(fold, other), plain.merge(fold, other));
        } else if (which < 51) {
            due("same", x.same(fold, other) ? 1 : 0, plain.same(fold, other) ? 1 : 0);
        } else {
            due("rows", x.rows(fold), plain.rows(fold));
        }
    }

    private void sumCall() {
        int fold = someFold();
        int k = numbers.below(5) - 1;
        due("real", x.real(fold), plain.real(fold));
        due("limb", sum(true, 0, fold, k), sum(false, 0, fold, k));
        due("mean", sum(true, 1, fold, k), sum(false, 1, fold, k));
        due("spread", sum(true, 2, fold, k), sum(false, 2, fold, k));
    }

    private long sum(boolean exact, int which, int fold, int k) {
        try {
            switch (which) {
                case 0:
                    return exact ? x.limb(fold, k) : plain.limb(fold, k);
                case 1:
                    return exact ? x.mean(fold, k) : plain.mean(fold, k);
                default:
                    return exact ? x.spread(fold, k) : plain.spread(fold, k);
            }
        } catch (ArrayIndexOutOfBoundsException e) {
            return 1234567890123L;
        } catch (ArithmeticException e) {
            return 1234567890124L;
        }
    }

    private void valueCall() {
        int fold = someFold();
        int k = numbers.below(20) - 1;
        long v = someValue();
        due("least", x.least(fold, k % 3), plain.least(fold, k % 3));
        due("rank", x.rank(fold, v), plain.rank(fold, v));
        due("unlike", x.unlike(fold), plain.unlike(fold));
        due("item", x.item(fold, k), plain.item(fold, k));
    }

    private int someState() {
        return numbers.below(30) == 0 ? numbers.below(2) * 9 - 1 : numbers.below(manner == 0 ? 3 : 8);
    }

    private void ownCall() {
        int fold = someFold();
        int s = someState();
        int t = someState();
        int to = someState();
        int v = numbers.below(40) == 0 ? numbers.below(2) * 5 - 1 : numbers.below(4);
        switch (numbers.below(10)) {
            case 0:
                due("start", x.start(s), plain.start(s));
                break;
            case 1: case 2:
                due("step", x.step(s, v, to), plain.step(s, v, to));
                break;
            case 3: case 4:
                due("join", x.join(s, t, to), plain.join(s, t, to));
                break;
            case 5: case 6:
                int what = numbers.below(6) - 1;
                due("check", x.check(what), plain.check(what));
                break;
            default:
                due("state", x.state(fold), plain.state(fold));
                due("joined", x.joined(fold, t % 4), plain.joined(fold, t % 4));
        }
    }
}
