/** Promises 14 to 17: least, rank, unlike, item; and what 'Terms' says of IN ORDER. */
public final class ValuesTest {
    private static final Due DUE = new Due();
    private static final long FAR = 100000000000000000L;
    private static final int[] NOT_ORDERED = {Made.WIDE, Made.REAL, Made.SPREAD, Made.OWN};

    public static void main(String[] args) {
        DUE.sentence("14 least: The least VALUE (end 0)", ValuesTest::least);
        DUE.sentence("14 least: the greatest (1)", ValuesTest::greatest);
        DUE.sentence("14 least: behind what is taken back", ValuesTest::leastTakenBack);
        DUE.sentence("14 least: of 64 ROWS, wherever it stands", ValuesTest::leastOfFull);
        DUE.sentence("14 least: NOTHING: no such fold", ValuesTest::leastOfNoFold);
        DUE.sentence("14 least: NOTHING: no such KIND", ValuesTest::leastOfOthers);
        DUE.sentence("14 least: NOTHING: no such end", ValuesTest::leastOfNoEnd);
        DUE.sentence("14 least: NOTHING: no ROWS", ValuesTest::leastWithoutRows);
        DUE.sentence("15 rank: How many VALUES are below v", ValuesTest::rank);
        DUE.sentence("15 rank: alike ones each", ValuesTest::rankOfAlike);
        DUE.sentence("15 rank: v beyond all VALUES", ValuesTest::rankBeyond);
        DUE.sentence("15 rank: no ROWS, 64 ROWS", ValuesTest::rankAtTheEnds);
        DUE.sentence("15 rank: -1", ValuesTest::rankOfNoFold);
        DUE.sentence("15 rank: -3", ValuesTest::rankOfOthers);
        DUE.sentence("16 unlike: How many unlike VALUES", ValuesTest::unlike);
        DUE.sentence("16 unlike: of unlike TIMES", ValuesTest::unlikeOverTimes);
        DUE.sentence("16 unlike: behind what is taken back", ValuesTest::unlikeTakenBack);
        DUE.sentence("16 unlike: no ROWS, 64 ROWS", ValuesTest::unlikeAtTheEnds);
        DUE.sentence("16 unlike: -1", ValuesTest::unlikeOfNoFold);
        DUE.sentence("16 unlike: -3", ValuesTest::unlikeOfOthers);
        DUE.sentence("17 item: The VALUE of the k-th ROW, from 0", ValuesTest::item);
        DUE.sentence("Terms: IN ORDER: by TIME", ValuesTest::byTime);
        DUE.sentence("Terms: of one TIME by VALUE, the lesser first", ValuesTest::byValue);
        DUE.sentence("Terms: What is told hangs on the ROWS alone", ValuesTest::whateverOrder);
        DUE.sentence("17 item: NOTHING: no such fold", ValuesTest::itemOfNoFold);
        DUE.sentence("17 item: NOTHING: it is REAL", ValuesTest::itemOfReal);
        DUE.sentence("17 item: NOTHING: no such ROW", ValuesTest::noSuchItem);
        DUE.sentence("17 item: NOTHING: no such ROW any more", ValuesTest::itemTakenBack);
        DUE.end();
    }

    /** Fold 0, ORDERED, with these values, the later ones of lesser times. */
    private static ExactFolds of(long... values) {
        ExactFolds x = Made.with(Made.ORDERED);
        for (int i = 0; i < values.length; i++) {
            x.add(0, 100 - i, values[i]);
        }
        return x;
    }

    private static void least() {
        DUE.answer("of one", of(4).least(0, 0), 4);
        DUE.answer("the first", of(-3, 4, 5).least(0, 0), -3);
        DUE.answer("the middle one", of(4, -3, 5).least(0, 0), -3);
        DUE.answer("the last", of(4, 5, -3).least(0, 0), -3);
        DUE.answer("the least there is", of(0, -FAR, FAR).least(0, 0), -FAR);
        DUE.answer("the greatest there is", of(FAR).least(0, 0), FAR);
    }

    private static void greatest() {
        DUE.answer("of one", of(-4).least(0, 1), -4);
        DUE.answer("the first", of(7, 4, 5).least(0, 1), 7);
        DUE.answer("the middle one", of(4, 7, 5).least(0, 1), 7);
        DUE.answer("the last", of(4, 5, 7).least(0, 1), 7);
        DUE.answer("the greatest there is", of(0, FAR, -FAR).least(0, 1), FAR);
        DUE.answer("the least there is", of(-FAR).least(0, 1), -FAR);
    }

    private static void leastTakenBack() {
        ExactFolds x = of(4, FAR, -FAR, 7);
        x.add(0, 5, -FAR);
        x.remove(0, 5, -FAR);
        DUE.answer("the other least stays", x.least(0, 0), -FAR);
        x.remove(0, 98, -FAR);
        DUE.answer("the next least", x.least(0, 0), 4);
        x.remove(0, 99, FAR);
        DUE.answer("the next greatest", x.least(0, 1), 7);
        x.remove(0, 97, 7);
        DUE.answer("the only one", x.least(0, 1), 4);
        x.remove(0, 100, 4);
        DUE.answer("none is left", x.least(0, 0), Made.NOTHING);
    }

    private static void leastOfFull() {
        for (int place : new int[] {0, 31, 63}) {
            ExactFolds x = Made.with(Made.ORDERED);
            ExactFolds y = Made.with(Made.ORDERED);
            for (int i = 0; i < 64; i++) {
                x.add(0, i, i == place ? -FAR : i);
                y.add(0, i, i == place ? FAR : -i);
            }
            DUE.answer("least at " + place, x.least(0, 0), -FAR);
            DUE.answer("greatest at " + place, y.least(0, 1), FAR);
            x.remove(0, place, -FAR);
            DUE.answer("what went at " + place, x.least(0, 0), place == 0 ? 1 : 0);
        }
    }

    private static void leastOfNoFold() {
        for (int f : Made.NO_FOLDS) {
            DUE.refused("least(" + f + ", 0)", Made::allKinds, x -> x.least(f, 0), Made.NOTHING);
            DUE.refused("least(" + f + ", 1)", Made::allKinds, x -> x.least(f, 1), Made.NOTHING);
        }
    }

    private static void leastOfOthers() {
        for (int f : NOT_ORDERED) {
            DUE.refused("least(" + f + ", 0)", Made::allKinds, x -> x.least(f, 0), Made.NOTHING);
            DUE.refused("least(" + f + ", 1)", Made::allKinds, x -> x.least(f, 1), Made.NOTHING);
        }
    }

    private static void leastOfNoEnd() {
        for (int end : new int[] {-1, 2, Integer.MIN_VALUE, Integer.MAX_VALUE}) {
            DUE.refused("end " + end, Made::allKinds, x -> x.least(Made.ORDERED, end), Made.NOTHING);
        }
    }

    private static void leastWithoutRows() {
        DUE.refused("end 0", Made::emptyOfAllKinds, x -> x.least(Made.ORDERED, 0), Made.NOTHING);
        DUE.refused("end 1", Made::emptyOfAllKinds, x -> x.least(Made.ORDERED, 1), Made.NOTHING);
    }

    private static void rank() {
        ExactFolds x = of(5, -7, 3);
        long[] asked = {-8, -7, -6, 3, 4, 5, 6};
        int[] want = {0, 0, 1, 1, 2, 2, 3};
        for (int i = 0; i < asked.length; i++) {
            DUE.answer("below " + asked[i], x.rank(0, asked[i]), want[i]);
        }
    }

    private static void rankOfAlike() {
        ExactFolds x = of(5, 3, 3, 5, 5);
        x.add(0, 100, 5);
        DUE.answer("below 3", x.rank(0, 3), 0);
        DUE.answer("below 4", x.rank(0, 4), 2);
        DUE.answer("below 5", x.rank(0, 5), 2);
        DUE.answer("below 6", x.rank(0, 6), 6);
    }

    private static void rankBeyond() {
        ExactFolds x = of(FAR, -FAR, 0);
        DUE.answer("below the least long", x.rank(0, Long.MIN_VALUE), 0);
        DUE.answer("below -10^17 - 1", x.rank(0, -FAR - 1), 0);
        DUE.answer("below -10^17", x.rank(0, -FAR), 0);
        DUE.answer("below 10^17", x.rank(0, FAR), 2);
        DUE.answer("below 10^17 + 1", x.rank(0, FAR + 1), 3);
        DUE.answer("below the greatest long", x.rank(0, Long.MAX_VALUE), 3);
    }

    private static void rankAtTheEnds() {
        DUE.answer("no rows", of().rank(0, Long.MAX_VALUE), 0);
        ExactFolds x = Made.with(Made.ORDERED);
        for (int i = 0; i < 64; i++) {
            x.add(0, 63 - i, i);
        }
        DUE.answer("below all of 64", x.rank(0, 0), 0);
        DUE.answer("below the greatest of 64", x.rank(0, 63), 63);
        DUE.answer("above all of 64", x.rank(0, 64), 64);
        x.remove(0, 0, 63);
        DUE.answer("what went is not below", x.rank(0, 64), 63);
    }

    private static void rankOfNoFold() {
        for (int f : Made.NO_FOLDS) {
            DUE.refused("rank(" + f + ", 5)", Made::allKinds, x -> x.rank(f, 5), -1);
        }
    }

    private static void rankOfOthers() {
        for (int f : NOT_ORDERED) {
            DUE.refused("rank(" + f + ", 5)", Made::allKinds, x -> x.rank(f, 5), -3);
            DUE.refused("without rows", Made::emptyOfAllKinds, x -> x.rank(f, 5), -3);
        }
    }

    private static void unlike() {
        DUE.answer("one", of(5).unlike(0), 1);
        DUE.answer("two", of(5, 7).unlike(0), 2);
        DUE.answer("of three two alike", of(5, 7, 5).unlike(0), 2);
        DUE.answer("all alike", of(5, 5, 5).unlike(0), 1);
        DUE.answer("by sign", of(5, -5).unlike(0), 2);
        DUE.answer("beyond 32 bits", of(1, 1 + (1L << 32)).unlike(0), 2);
    }

    private static void unlikeOverTimes() {
        ExactFolds x = Made.with(Made.ORDERED);
        x.add(0, 1, 5);
        x.add(0, 2, 6);
        x.add(0, 3, 5);
        x.add(0, 3, 5);
        x.add(0, 4, 6);
        DUE.answer("rows between alike ones", x.unlike(0), 2);
    }

    private static void unlikeTakenBack() {
        ExactFolds x = of(5, 7, 5);
        x.remove(0, 100, 5);
        DUE.answer("5 is there yet", x.unlike(0), 2);
        x.remove(0, 98, 5);
        DUE.answer("5 is gone", x.unlike(0), 1);
        x.remove(0, 99, 7);
        DUE.answer("7 is gone", x.unlike(0), 0);
    }

    private static void unlikeAtTheEnds() {
        DUE.answer("no rows", of().unlike(0), 0);
        ExactFolds x = Made.with(Made.ORDERED);
        ExactFolds y = Made.with(Made.ORDERED);
        for (int i = 0; i < 64; i++) {
            x.add(0, 5, i);
            y.add(0, i, 5);
        }
        DUE.answer("64 unlike", x.unlike(0), 64);
        DUE.answer("64 alike", y.unlike(0), 1);
        x.remove(0, 5, 63);
        DUE.answer("what went is not counted", x.unlike(0), 63);
    }

    private static void unlikeOfNoFold() {
        for (int f : Made.NO_FOLDS) {
            DUE.refused("unlike(" + f + ")", Made::allKinds, x -> x.unlike(f), -1);
        }
    }

    private static void unlikeOfOthers() {
        for (int f : NOT_ORDERED) {
            DUE.refused("unlike(" + f + ")", Made::allKinds, x -> x.unlike(f), -3);
            DUE.refused("without rows", Made::emptyOfAllKinds, x -> x.unlike(f), -3);
        }
    }

    private static void item() {
        for (int kind : Made.NOT_REAL) {
            ExactFolds x = Made.full(kind);
            for (int k = 0; k < 64; k++) {
                DUE.answer("item " + k, x.item(0, k), k % 4);
            }
        }
        ExactFolds y = Made.with(Made.WIDE);
        y.add(0, 0, Long.MAX_VALUE);
        DUE.answer("the greatest long", y.item(0, 0), Long.MAX_VALUE);
    }

    private static void itemsAre(ExactFolds x, long... want) {
        for (int k = 0; k < want.length; k++) {
            DUE.answer("item " + k, x.item(0, k), want[k]);
        }
        DUE.answer("no more", x.item(0, want.length), Made.NOTHING);
    }

    private static void byTime() {
        for (int kind : Made.NOT_REAL) {
            ExactFolds x = Made.with(kind);
            x.add(0, 1000000, 0);
            x.add(0, 7, 1);
            x.add(0, 0, 3);
            x.add(0, 8, 2);
            itemsAre(x, 3, 1, 2, 0);
        }
    }

    private static void byValue() {
        ExactFolds x = Made.with(Made.WIDE);
        for (long v : new long[] {0, Long.MAX_VALUE, -1, Long.MIN_VALUE, 1, 1L << 32, -(1L << 32)}) {
            x.add(0, 5, v);
        }
        itemsAre(x, Long.MIN_VALUE, -(1L << 32), -1, 0, 1, 1L << 32, Long.MAX_VALUE);
        for (int kind : Made.NOT_REAL) {
            ExactFolds y = Made.with(kind);
            for (long v : new long[] {2, 3, 0, 2, 1}) {
                y.add(0, 5, v);
            }
            itemsAre(y, 0, 1, 2, 2, 3);
        }
    }

    private static void whateverOrder() {
        int[] times = {0, 2, 2, 2, 7, 1000000};
        long[] values = {3, 0, 1, 1, 2, 0};
        for (int kind : Made.NOT_REAL) {
            // Every turn of the rows, forward and backward.
            for (int turn = 0; turn < 12; turn++) {
                ExactFolds x = Made.with(kind);
                for (int i = 0; i < 6; i++) {
                    int at = (turn + (turn < 6 ? i : 5 - i)) % 6;
                    x.add(0, times[at], values[at]);
                }
                itemsAre(x, values);
            }
        }
    }

    private static void itemOfNoFold() {
        for (int f : Made.NO_FOLDS) {
            DUE.refused("item(" + f + ", 0)", Made::allKinds, x -> x.item(f, 0), Made.NOTHING);
        }
    }

    private static void itemOfReal() {
        for (int k = -1; k < 3; k++) {
            int asked = k;
            DUE.refused("item(1, " + k + ")", Made::allKinds, x -> x.item(Made.REAL, asked), Made.NOTHING);
        }
    }

    private static void noSuchItem() {
        for (int f : Made.NOT_REAL) {
            for (int k : new int[] {-1, 2, 63, 64, Integer.MIN_VALUE, Integer.MAX_VALUE}) {
                DUE.refused("item(" + f + ", " + k + ")", Made::allKinds, x -> x.item(f, k), Made.NOTHING);
            }
            DUE.refused("without rows", Made::emptyOfAllKinds, x -> x.item(f, 0), Made.NOTHING);
            DUE.refused("a 65th", () -> Made.full(f), x -> x.item(0, 64), Made.NOTHING);
        }
    }

    private static void itemTakenBack() {
        for (int kind : Made.NOT_REAL) {
            ExactFolds x = Made.full(kind);
            x.remove(0, 5, 1);
            DUE.answer("the next one", x.item(0, 5), 2);
            DUE.answer("the last one", x.item(0, 62), 3);
            DUE.answer("one too far", x.item(0, 63), Made.NOTHING);
        }
    }
}
