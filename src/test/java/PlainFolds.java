import java.math.BigDecimal;
import java.math.BigInteger;
import java.util.ArrayList;
import java.util.Collections;
import java.util.List;
import java.util.TreeSet;

/** The document once more, with the Java library and without care for speed or room: what ExactFolds is held against. */
final class PlainFolds {
    static final long NOTHING = Long.MIN_VALUE;
    static final long[] BOUNDS = {0, 0, 1000000L, 100000000000000000L};

    record Row(int time, long value) implements Comparable<Row> {
        @Override
        public int compareTo(Row o) {
            return time != o.time ? Integer.compare(time, o.time) : Long.compare(value, o.value);
        }
    }

    private final List<Integer> kinds = new ArrayList<>();
    private final List<List<Row>> rows = new ArrayList<>();
    private int start = 0;
    private final int[][] step = new int[8][4];
    private final int[][] join = new int[8][8];

    private boolean is(int fold) {
        return fold >= 0 && fold < kinds.size();
    }

    private boolean is(int fold, int kind) {
        return is(fold) && kinds.get(fold) == kind;
    }

    private static boolean in(long x, long least, long greatest) {
        return least <= x && x <= greatest;
    }

    private List<Row> sorted(int fold) {
        List<Row> all = new ArrayList<>(rows.get(fold));
        Collections.sort(all);
        return all;
    }

    int fold(int kind) {
        if (!in(kind, 0, 4)) {
            return -2;
        }
        if (kinds.size() == 12) {
            return -4;
        }
        kinds.add(kind);
        rows.add(new ArrayList<>());
        return kinds.size() - 1;
    }

    int add(int fold, int time, long v) {
        if (!is(fold)) {
            return -1;
        }
        int kind = kinds.get(fold);
        if (kind == 1) {
            return -3;
        }
        boolean good = kind == 0 || (kind == 4 ? in(v, 0, 3) : in(v, -BOUNDS[kind], BOUNDS[kind]));
        return put(fold, time, v, good);
    }

    int addReal(int fold, int time, long bits) {
        if (!is(fold)) {
            return -1;
        }
        if (!is(fold, 1)) {
            return -3;
        }
        double d = Double.longBitsToDouble(bits);
        return put(fold, time, d == 0 ? 0 : bits, Double.isFinite(d));
    }

    private int put(int fold, int time, long v, boolean good) {
        if (!good || !in(time, 0, 1000000)) {
            return -2;
        }
        if (rows.get(fold).size() == 64) {
            return -4;
        }
        rows.get(fold).add(new Row(time, v));
        return rows.get(fold).size();
    }

    int remove(int fold, int time, long v, boolean real) {
        if (!is(fold)) {
            return -1;
        }
        long value = real && v == Long.MIN_VALUE ? 0 : v;
        if (is(fold, 1) != real || !rows.get(fold).remove(new Row(time, value))) {
            return -3;
        }
        return rows.get(fold).size();
    }

    int merge(int a, int b) {
        if (!is(a) || !is(b) || a == b) {
            return -1;
        }
        if (!kinds.get(a).equals(kinds.get(b))) {
            return -3;
        }
        if (rows.get(a).size() + rows.get(b).size() > 64) {
            return -4;
        }
        rows.get(a).addAll(rows.get(b));
        rows.get(b).clear();
        return rows.get(a).size();
    }

    boolean same(int a, int b) {
        return is(a) && is(b) && kinds.get(a).equals(kinds.get(b)) && sorted(a).equals(sorted(b));
    }

    int rows(int fold) {
        return is(fold) ? rows.get(fold).size() : -1;
    }

    private BigInteger sum(int fold) {
        BigInteger sum = BigInteger.ZERO;
        for (Row r : rows.get(fold)) {
            sum = sum.add(BigInteger.valueOf(r.value()));
        }
        return sum;
    }

    int limb(int fold, int k) {
        if (!is(fold, 0)) {
            return 0;
        }
        if (!in(k, 0, 2)) {
            throw new ArrayIndexOutOfBoundsException();
        }
        return sum(fold).shiftRight(32 * k).intValue();
    }

    long real(int fold) {
        if (!is(fold, 1)) {
            return 0;
        }
        BigDecimal sum = BigDecimal.ZERO;
        for (Row r : rows.get(fold)) {
            sum = sum.add(new BigDecimal(Double.longBitsToDouble(r.value())));
        }
        return Double.doubleToLongBits(sum.doubleValue());
    }

    long mean(int fold, int part) {
        if (!is(fold, 2) || !in(part, 0, 1)) {
            return NOTHING;
        }
        if (rows.get(fold).isEmpty()) {
            throw new ArithmeticException();
        }
        return part(sum(fold), BigInteger.valueOf(rows.get(fold).size()), part);
    }

    long spread(int fold, int part) {
        if (!is(fold, 2) || !in(part, 0, 1)) {
            return NOTHING;
        }
        if (rows.get(fold).isEmpty()) {
            throw new ArithmeticException();
        }
        BigInteger n = BigInteger.valueOf(rows.get(fold).size());
        BigInteger squares = BigInteger.ZERO;
        for (Row r : rows.get(fold)) {
            squares = squares.add(BigInteger.valueOf(r.value()).multiply(n).subtract(sum(fold)).pow(2));
        }
        return part(squares, n.pow(3), part);
    }

    private static long part(BigInteger above, BigInteger below, int part) {
        return (part == 0 ? above : below).divide(above.gcd(below)).longValueExact();
    }

    private List<Long> values(int fold) {
        List<Long> all = new ArrayList<>();
        for (Row r : sorted(fold)) {
            all.add(r.value());
        }
        return all;
    }

    long least(int fold, int end) {
        if (!is(fold, 3) || !in(end, 0, 1) || rows.get(fold).isEmpty()) {
            return NOTHING;
        }
        return end == 0 ? Collections.min(values(fold)) : Collections.max(values(fold));
    }

    int rank(int fold, long v) {
        if (!is(fold, 3)) {
            return is(fold) ? -3 : -1;
        }
        return (int) values(fold).stream().filter(x -> x < v).count();
    }

    int unlike(int fold) {
        if (!is(fold, 3)) {
            return is(fold) ? -3 : -1;
        }
        return (int) values(fold).stream().distinct().count();
    }

    long item(int fold, int k) {
        return !is(fold) || is(fold, 1) || !in(k, 0, rows(fold) - 1) ? NOTHING : values(fold).get(k);
    }

    int start(int s) {
        if (!in(s, 0, 7)) {
            return -2;
        }
        int was = start;
        start = s;
        return was;
    }

    int step(int s, int v, int to) {
        if (!in(s, 0, 7) || !in(v, 0, 3) || !in(to, 0, 7)) {
            return -2;
        }
        int was = step[s][v];
        step[s][v] = to;
        return was;
    }

    int join(int s, int t, int to) {
        if (!in(s, 0, 7) || !in(t, 0, 7) || !in(to, 0, 7)) {
            return -2;
        }
        int was = join[s][t];
        join[s][t] = to;
        return was;
    }

    int state(int fold) {
        if (!is(fold, 4)) {
            return is(fold) ? -3 : -1;
        }
        int state = start;
        for (long v : values(fold)) {
            state = step[state][(int) v];
        }
        return state;
    }

    int check(int what) {
        if (!in(what, 0, 3)) {
            return -2;
        }
        int[] found = firstWrong();
        return what < found.length ? found[what] : -3;
    }

    private int[] firstWrong() {
        TreeSet<Integer> reached = new TreeSet<>();
        reach(start, reached);
        for (int s : reached) {
            if (join[s][start] != s) {
                return new int[] {1, s};
            }
            for (int t : reached) {
                for (int v = 0; v < 4; v++) {
                    if (join[s][step[t][v]] != step[join[s][t]][v]) {
                        return new int[] {2, s, t, v};
                    }
                }
            }
        }
        return new int[] {0};
    }

    private void reach(int s, TreeSet<Integer> reached) {
        if (reached.add(s)) {
            for (int v = 0; v < 4; v++) {
                reach(step[s][v], reached);
            }
        }
    }

    int joined(int fold, int way) {
        if (!is(fold, 4)) {
            return is(fold) ? -3 : -1;
        }
        if (!in(way, 0, 2)) {
            return -2;
        }
        List<Integer> all = new ArrayList<>();
        for (long v : values(fold)) {
            all.add(step[start][(int) v]);
        }
        return all.isEmpty() ? start : joined(all, way);
    }

    private int joined(List<Integer> all, int way) {
        int n = all.size();
        if (n == 1) {
            return all.get(0);
        }
        int cut = way == 0 ? n / 2 : way == 1 ? n - 1 : 1;
        return join[joined(all.subList(0, cut), way)][joined(all.subList(cut, n), way)];
    }
}
