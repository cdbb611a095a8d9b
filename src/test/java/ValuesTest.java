/** Promises 14 to 17: least, rank, unlike, item. */
public final class ValuesTest {
    private static final Due DUE = new Due();
    private static final long NOTHING = ExactFolds.NOTHING;
    private static final long FAR = 100000000000000000L;

    public static void main(String[] args) {
        least();
        rank();
        unlike();
        item();
        itemOrder();
        refusals();
        DUE.end();
    }

    private static ExactFolds allKinds() {
        ExactFolds x = new ExactFolds();
        for (int kind = 0; kind < 5; kind++) {
            x.fold(kind);
        }
        return x;
    }

    private static void least() {
        ExactFolds x = allKinds();
        DUE.answer("least without rows", x.least(3, 0), NOTHING);
        DUE.answer("greatest without rows", x.least(3, 1), NOTHING);
        x.add(3, 9, 4);
        DUE.answer("least of one", x.least(3, 0), 4);
        DUE.answer("greatest of one", x.least(3, 1), 4);
        x.add(3, 0, FAR);
        x.add(3, 1000000, -FAR);
        x.add(3, 5, -FAR);
        DUE.answer("least", x.least(3, 0), -FAR);
        DUE.answer("greatest", x.least(3, 1), FAR);
        x.remove(3, 5, -FAR);
        DUE.answer("the other least stays", x.least(3, 0), -FAR);
        x.remove(3, 1000000, -FAR);
        DUE.answer("least behind what is taken back", x.least(3, 0), 4);
        x.remove(3, 0, FAR);
        DUE.answer("greatest behind what is taken back", x.least(3, 1), 4);
        x.remove(3, 9, 4);
        DUE.answer("none left", x.least(3, 0), NOTHING);
        DUE.answer("none left", x.least(3, 1), NOTHING);
    }

    private static void rank() {
        ExactFolds x = allKinds();
        DUE.answer("rank without rows", x.rank(3, Long.MAX_VALUE), 0);
        long[] values = {5, 3, 3, -7, 5, FAR};
        for (int i = 0; i < values.length; i++) {
            x.add(3, 10 - i, values[i]);
        }
        long[] asked = {Long.MIN_VALUE, -7, -6, 3, 4, 5, 6, FAR, FAR + 1, Long.MAX_VALUE};
        int[] want = {0, 0, 1, 1, 3, 3, 5, 5, 6, 6};
        for (int i = 0; i < asked.length; i++) {
            DUE.answer("rank of " + asked[i], x.rank(3, asked[i]), want[i]);
        }
    }

    private static void unlike() {
        ExactFolds x = allKinds();
        DUE.answer("unlike without rows", x.unlike(3), 0);
        x.add(3, 1, 5);
        x.add(3, 2, 7);
        x.add(3, 3, 5);
        x.add(3, 3, 5);
        DUE.answer("unlike", x.unlike(3), 2);
        x.remove(3, 1, 5);
        DUE.answer("5 is there yet", x.unlike(3), 2);
        x.remove(3, 2, 7);
        DUE.answer("7 is gone", x.unlike(3), 1);
        for (int i = 0; i < 62; i++) {
            x.add(3, i, -i);
        }
        DUE.answer("64 rows", x.unlike(3), 63);
        DUE.answer("rank in 64 rows", x.rank(3, 0), 61);
        DUE.answer("least of 64", x.least(3, 0), -61);
        DUE.answer("greatest of 64", x.least(3, 1), 5);
        x.remove(3, 61, -61);
        DUE.answer("what went is not counted", x.unlike(3), 62);
        DUE.answer("what went is not below", x.rank(3, 0), 60);
        DUE.answer("what went is not the least", x.least(3, 0), -60);
    }

    private static void item() {
        ExactFolds x = allKinds();
        for (int f : new int[] {0, 2, 3, 4}) {
            DUE.answer("item without rows", x.item(f, 0), NOTHING);
            x.add(f, 1000000, 0);
            x.add(f, 7, 3);
            x.add(f, 7, 1);
            x.add(f, 0, 2);
            long[] want = {2, 1, 3, 0};
            for (int k = 0; k < 4; k++) {
                DUE.answer("item(" + f + ", " + k + ")", x.item(f, k), want[k]);
            }
            for (int k : new int[] {-1, 4, 63, 64, Integer.MIN_VALUE, Integer.MAX_VALUE}) {
                DUE.answer("item(" + f + ", " + k + ")", x.item(f, k), NOTHING);
            }
            x.remove(f, 7, 1);
            DUE.answer("behind what is taken back", x.item(f, 1), 3);
            DUE.answer("no such row any more", x.item(f, 3), NOTHING);
        }
        x.addReal(1, 0, 5);
        DUE.answer("item of REAL", x.item(1, 0), NOTHING);
    }

    private static void itemOrder() {
        ExactFolds x = allKinds();
        long[] values = {Long.MIN_VALUE, Long.MAX_VALUE, -1, 0, 1};
        for (int i = 0; i < 60; i++) {
            x.add(0, i * 7 % 12, values[i * 3 % 5]);
        }
        long[] lesserFirst = {Long.MIN_VALUE, -1, 0, 1, Long.MAX_VALUE};
        for (int k = 0; k < 60; k++) {
            DUE.answer("item " + k, x.item(0, k), lesserFirst[k % 5]);
        }
    }

    private static void refusals() {
        ExactFolds x = allKinds();
        for (int f = 0; f < 5; f++) {
            x.add(f, 0, 1);
        }
        x.addReal(1, 0, 1);
        for (int end : new int[] {-1, 2, Integer.MIN_VALUE, Integer.MAX_VALUE}) {
            DUE.answer("least, end " + end, x.least(3, end), NOTHING);
        }
        for (int f : new int[] {0, 1, 2, 4}) {
            DUE.answer("least of another kind", x.least(f, 0), NOTHING);
            DUE.answer("rank of another kind", x.rank(f, 5), -3);
            DUE.answer("unlike of another kind", x.unlike(f), -3);
        }
        for (int f : new int[] {-1, 5, 12, Integer.MAX_VALUE, Integer.MIN_VALUE}) {
            DUE.answer("least of none", x.least(f, 0), NOTHING);
            DUE.answer("rank of none", x.rank(f, 5), -1);
            DUE.answer("unlike of none", x.unlike(f), -1);
            DUE.answer("item of none", x.item(f, 0), NOTHING);
        }
    }
}
