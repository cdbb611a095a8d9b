/** Folds of rows whose answers hang on the rows alone, never on the order in which they came. */
public final class ExactFolds {
    public static final long NOTHING = Long.MIN_VALUE;

    private static final int NO_SUCH_FOLD = -1;
    private static final int OUT_OF_BOUNDS = -2;
    private static final int NOT_WITH_THIS = -3;
    private static final int NO_ROOM = -4;

    private static final int WIDE = 0;
    private static final int REAL = 1;
    private static final int SPREAD = 2;
    private static final int ORDERED = 3;
    private static final int OWN = 4;

    private static final int MOST_FOLDS = 12;
    private static final int MOST_ROWS = 64;
    private static final int LAST_TIME = 1000000;
    private static final long SPREAD_BOUND = 1000000L;
    private static final long ORDERED_BOUND = 100000000000000000L;
    private static final int STATES = 8;
    private static final int OWN_VALUES = 4;

    private static final long LOW_32 = 0xFFFFFFFFL;
    private static final long NEGATIVE_ZERO = Long.MIN_VALUE;
    private static final long INFINITE = 0x7FF0000000000000L;
    // Euclid's way with two longs takes fewer steps than this.
    private static final int EUCLID_STEPS = 100;

    private final Fold[] folds = new Fold[MOST_FOLDS];
    private int foldCount = 0;
    private final Tables tables = new Tables();
    private final RealSum realSum = new RealSum();

    public ExactFolds() {
    }

    // ---- folds, rows

    public int fold(int kind) {
        if (kind < WIDE || kind > OWN) {
            return OUT_OF_BOUNDS;
        }
        if (foldCount >= MOST_FOLDS) {
            return NO_ROOM;
        }
        folds[foldCount] = new Fold(kind);
        foldCount++;
        return foldCount - 1;
    }

    public int add(int fold, int time, long v) {
        return addRow(fold, false, time, v);
    }

    public int addReal(int fold, int time, long bits) {
        return addRow(fold, true, time, withOneZero(bits));
    }

    public int remove(int fold, int time, long v) {
        return removeRow(fold, false, time, v);
    }

    public int removeReal(int fold, int time, long bits) {
        return removeRow(fold, true, time, withOneZero(bits));
    }

    public int merge(int a, int b) {
        Fold to = foldNumbered(a);
        Fold from = foldNumbered(b);
        if (to == null || from == null || a == b) {
            return NO_SUCH_FOLD;
        }
        if (to.kind != from.kind) {
            return NOT_WITH_THIS;
        }
        if (to.size + from.size > MOST_ROWS) {
            return NO_ROOM;
        }
        to.takeAllOf(from);
        return to.size;
    }

    public boolean same(int a, int b) {
        Fold f = foldNumbered(a);
        Fold g = foldNumbered(b);
        if (f == null || g == null) {
            return false;
        }
        return f.kind == g.kind && f.hasTheRowsOf(g);
    }

    public int rows(int fold) {
        Fold f = foldNumbered(fold);
        return f == null ? NO_SUCH_FOLD : f.size;
    }

    // ---- sums

    public int limb(int fold, int k) throws ArrayIndexOutOfBoundsException {
        Fold f = foldOfKind(fold, WIDE);
        if (f == null) {
            return 0;
        }
        if (k < 0 || k > 2) {
            throw new ArrayIndexOutOfBoundsException("a sum has the limbs 0 to 2");
        }
        return f.limbOfSum(k);
    }

    public long real(int fold) {
        Fold f = foldOfKind(fold, REAL);
        return f == null ? 0 : realSum.roundedSumOf(f);
    }

    public long mean(int fold, int part) throws ArithmeticException {
        Fold f = foldOfKind(fold, SPREAD);
        if (f == null || part < 0 || part > 1) {
            return NOTHING;
        }
        if (f.size == 0) {
            throw new ArithmeticException("no rows, no mean");
        }
        return partOfFraction(f.sumOfValues(), f.size, part);
    }

    public long spread(int fold, int part) throws ArithmeticException {
        Fold f = foldOfKind(fold, SPREAD);
        if (f == null || part < 0 || part > 1) {
            return NOTHING;
        }
        if (f.size == 0) {
            throw new ArithmeticException("no rows, no spread");
        }
        // With n rows: sum((v - sum/n)^2) / n = (n * sum(v^2) - sum^2) / n^2, all far inside a long.
        long n = f.size;
        long sum = f.sumOfValues();
        return partOfFraction(n * f.sumOfSquares() - sum * sum, n * n, part);
    }

    // ---- values

    public long least(int fold, int end) {
        Fold f = foldOfKind(fold, ORDERED);
        if (f == null || end < 0 || end > 1 || f.size == 0) {
            return NOTHING;
        }
        return end == 0 ? f.leastValue() : f.greatestValue();
    }

    public int rank(int fold, long v) {
        Fold f = foldNumbered(fold);
        if (f == null) {
            return NO_SUCH_FOLD;
        }
        return f.kind == ORDERED ? f.countBelow(v) : NOT_WITH_THIS;
    }

    public int unlike(int fold) {
        Fold f = foldNumbered(fold);
        if (f == null) {
            return NO_SUCH_FOLD;
        }
        return f.kind == ORDERED ? f.countUnlike() : NOT_WITH_THIS;
    }

    public long item(int fold, int k) {
        Fold f = foldNumbered(fold);
        if (f == null || f.kind == REAL || k < 0 || k >= f.size) {
            return NOTHING;
        }
        return f.values[k];
    }

    // ---- a fold of one's own

    public int start(int s) {
        return isState(s) ? tables.setStart(s) : OUT_OF_BOUNDS;
    }

    public int step(int s, int v, int to) {
        if (!isState(s) || v < 0 || v >= OWN_VALUES || !isState(to)) {
            return OUT_OF_BOUNDS;
        }
        return tables.setStep(s, v, to);
    }

    public int join(int s, int t, int to) {
        if (!isState(s) || !isState(t) || !isState(to)) {
            return OUT_OF_BOUNDS;
        }
        return tables.setJoin(s, t, to);
    }

    public int state(int fold) {
        Fold f = foldNumbered(fold);
        if (f == null) {
            return NO_SUCH_FOLD;
        }
        return f.kind == OWN ? tables.stateOf(f) : NOT_WITH_THIS;
    }

    public int check(int what) {
        if (what < 0 || what > 3) {
            return OUT_OF_BOUNDS;
        }
        tables.lookThrough();
        switch (what) {
            case 0:
                return tables.wrongRule;
            case 1:
                return tables.wrongS;
            case 2:
                return tables.wrongT;
            default:
                return tables.wrongV;
        }
    }

    public int joined(int fold, int way) {
        Fold f = foldNumbered(fold);
        if (f == null) {
            return NO_SUCH_FOLD;
        }
        if (f.kind != OWN) {
            return NOT_WITH_THIS;
        }
        if (way < 0 || way > 2) {
            return OUT_OF_BOUNDS;
        }
        return tables.joinAll(f, way);
    }

    // ---- what the calls share

    private Fold foldNumbered(int number) {
        return number >= 0 && number < foldCount ? folds[number] : null;
    }

    private Fold foldOfKind(int number, int kind) {
        Fold f = foldNumbered(number);
        return f != null && f.kind == kind ? f : null;
    }

    private int addRow(int number, boolean real, int time, long value) {
        Fold f = foldNumbered(number);
        if (f == null) {
            return NO_SUCH_FOLD;
        }
        if ((f.kind == REAL) != real) {
            return NOT_WITH_THIS;
        }
        if (time < 0 || time > LAST_TIME || !isValueOf(f.kind, value)) {
            return OUT_OF_BOUNDS;
        }
        if (f.size >= MOST_ROWS) {
            return NO_ROOM;
        }
        f.insert(time, value);
        return f.size;
    }

    private int removeRow(int number, boolean real, int time, long value) {
        Fold f = foldNumbered(number);
        if (f == null) {
            return NO_SUCH_FOLD;
        }
        int place = f.placeOf(time, value);
        if ((f.kind == REAL) != real || !f.isRow(place, time, value)) {
            return NOT_WITH_THIS;
        }
        f.takeOut(place);
        return f.size;
    }

    private static boolean isValueOf(int kind, long value) {
        switch (kind) {
            case WIDE:
                return true;
            case REAL:
                return (value & INFINITE) != INFINITE;
            case SPREAD:
                return value >= -SPREAD_BOUND && value <= SPREAD_BOUND;
            case ORDERED:
                return value >= -ORDERED_BOUND && value <= ORDERED_BOUND;
            default:
                return value >= 0 && value < OWN_VALUES;
        }
    }

    private static long withOneZero(long bits) {
        return bits == NEGATIVE_ZERO ? 0 : bits;
    }

    private static boolean isState(int s) {
        return s >= 0 && s < STATES;
    }

    private static long partOfFraction(long above, long below, int part) {
        long told = part == 0 ? above : below;
        long divisor = greatestDivisor(Math.abs(above), below);
        return divisor == 0 ? told : told / divisor;
    }

    private static long greatestDivisor(long a, long b) {
        long greater = a;
        long lesser = b;
        for (int i = 0; i < EUCLID_STEPS && lesser != 0; i++) {
            long rest = greater % lesser;
            greater = lesser;
            lesser = rest;
        }
        return greater;
    }

    /** The rows of one fold, kept in order: by time, of one time by value. */
    private static final class Fold {
        final int kind;
        final int[] times = new int[MOST_ROWS];
        // The values of a REAL fold are bits: their order as longs is never told, it only makes rows comparable.
        final long[] values = new long[MOST_ROWS];
        int size = 0;

        Fold(int kind) {
            this.kind = kind;
        }

        /** How many rows stand before such a row: where the first one like it is, or would be. */
        int placeOf(int time, long value) {
            for (int i = 0; i < size; i++) {
                if (times[i] > time || (times[i] == time && values[i] >= value)) {
                    return i;
                }
            }
            return size;
        }

        boolean isRow(int place, int time, long value) {
            return place >= 0 && place < size && times[place] == time && values[place] == value;
        }

        void insert(int time, long value) {
            if (size >= MOST_ROWS) {
                return;
            }
            int place = placeOf(time, value);
            for (int i = size; i > place; i--) {
                times[i] = times[i - 1];
                values[i] = values[i - 1];
            }
            times[place] = time;
            values[place] = value;
            size++;
        }

        void takeOut(int place) {
            if (place < 0 || place >= size) {
                return;
            }
            size--;
            for (int i = place; i < size; i++) {
                times[i] = times[i + 1];
                values[i] = values[i + 1];
            }
        }

        void takeAllOf(Fold other) {
            for (int i = 0; i < other.size; i++) {
                insert(other.times[i], other.values[i]);
            }
            other.size = 0;
        }

        boolean hasTheRowsOf(Fold other) {
            if (size != other.size) {
                return false;
            }
            for (int i = 0; i < size; i++) {
                if (!other.isRow(i, times[i], values[i])) {
                    return false;
                }
            }
            return true;
        }

        int limbOfSum(int k) {
            // The halves are summed apart: 64 of either stay inside a long.
            long low = 0;
            long high = 0;
            for (int i = 0; i < size; i++) {
                low += values[i] & LOW_32;
                high += values[i] >> 32;
            }
            high += low >> 32;
            if (k == 0) {
                return (int) low;
            }
            return k == 1 ? (int) high : (int) (high >> 32);
        }

        long sumOfValues() {
            long sum = 0;
            for (int i = 0; i < size; i++) {
                sum += values[i];
            }
            return sum;
        }

        long sumOfSquares() {
            long sum = 0;
            for (int i = 0; i < size; i++) {
                sum += values[i] * values[i];
            }
            return sum;
        }

        long leastValue() {
            long found = Long.MAX_VALUE;
            for (int i = 0; i < size; i++) {
                found = Math.min(found, values[i]);
            }
            return found;
        }

        long greatestValue() {
            long found = Long.MIN_VALUE;
            for (int i = 0; i < size; i++) {
                found = Math.max(found, values[i]);
            }
            return found;
        }

        int countBelow(long v) {
            int count = 0;
            for (int i = 0; i < size; i++) {
                if (values[i] < v) {
                    count++;
                }
            }
            return count;
        }

        int countUnlike() {
            int count = 0;
            for (int i = 0; i < size; i++) {
                if (isFirstOfItsValue(i)) {
                    count++;
                }
            }
            return count;
        }

        private boolean isFirstOfItsValue(int place) {
            for (int i = 0; i < place; i++) {
                if (values[i] == values[place]) {
                    return false;
                }
            }
            return true;
        }
    }

    /** A whole number of 2^-1074, the least double above 0: every finite double is one, and so is every sum. */
    private static final class RealSum {
        // 64 doubles below 2^1024 need 1074 + 1024 + 6 bits: 66 limbs, and one more as a margin.
        private static final int LIMBS = 67;
        private static final int FRACTION_BITS = 52;
        private static final long HIDDEN_BIT = 1L << FRACTION_BITS;
        private static final int EXPONENT_MASK = 0x7FF;
        // Here the exponent, one more than this shift, would be that of what is infinite.
        private static final int INFINITE_SHIFT = 2046;

        private final long[] limbs = new long[LIMBS];

        long roundedSumOf(Fold f) {
            for (int i = 0; i < LIMBS; i++) {
                limbs[i] = 0;
            }
            for (int i = 0; i < f.size; i++) {
                put(f.values[i]);
            }
            boolean negative = carry() < 0;
            if (negative) {
                turnSign();
            }
            long size = roundedSize();
            return negative ? size | Long.MIN_VALUE : size;
        }

        private void put(long bits) {
            int exponent = (int) (bits >>> FRACTION_BITS) & EXPONENT_MASK;
            long digits = bits & (HIDDEN_BIT - 1);
            int shift = 0;
            if (exponent > 0) {
                digits |= HIDDEN_BIT;
                shift = exponent - 1;
            }
            long low = (digits & LOW_32) << (shift & 31);
            long high = (digits >>> 32) << (shift & 31);
            long sign = bits < 0 ? -1 : 1;
            int first = shift >> 5;
            if (first + 2 < LIMBS) {
                limbs[first] += sign * (low & LOW_32);
                limbs[first + 1] += sign * ((low >>> 32) + (high & LOW_32));
                limbs[first + 2] += sign * (high >>> 32);
            }
        }

        /** Brings every limb to 32 bits without a sign; what is carried out is -1 below 0, else 0. */
        private long carry() {
            long carried = 0;
            for (int i = 0; i < LIMBS; i++) {
                long whole = limbs[i] + carried;
                limbs[i] = whole & LOW_32;
                carried = whole >> 32;
            }
            return carried;
        }

        private void turnSign() {
            for (int i = 0; i < LIMBS; i++) {
                limbs[i] = -limbs[i];
            }
            carry();
        }

        private long roundedSize() {
            int shift = highestBit() - FRACTION_BITS;
            if (shift <= 0) {
                // The bits of a double count on from the least ones, the hidden bit being exponent 1.
                return digitsFrom(0);
            }
            if (shift >= INFINITE_SHIFT) {
                return INFINITE;
            }
            // The hidden bit adds 1 to the exponent, and rounding up may carry into it: up to infinite.
            long bits = ((long) shift << FRACTION_BITS) + digitsFrom(shift);
            return roundsUp(shift) ? bits + 1 : bits;
        }

        private int highestBit() {
            for (int i = LIMBS - 1; i >= 0; i--) {
                if (limbs[i] != 0) {
                    return i * 32 + 63 - Long.numberOfLeadingZeros(limbs[i]);
                }
            }
            return -1;
        }

        private long digitsFrom(int bit) {
            int first = bit >> 5;
            int within = bit & 31;
            long low = limbAt(first) | (limbAt(first + 1) << 32);
            long high = limbAt(first + 2);
            // Two shifts, since one by 64 would be one by 0.
            long digits = (low >>> within) | ((high << (32 - within)) << 32);
            return digits & (2 * HIDDEN_BIT - 1);
        }

        private boolean roundsUp(int shift) {
            if (!isSet(shift - 1)) {
                return false;
            }
            return isSet(shift) || isAnySetBelow(shift - 1);
        }

        private boolean isSet(int bit) {
            return ((limbAt(bit >> 5) >>> (bit & 31)) & 1) != 0;
        }

        private boolean isAnySetBelow(int bit) {
            for (int i = 0; i < bit >> 5; i++) {
                if (limbAt(i) != 0) {
                    return true;
                }
            }
            return (limbAt(bit >> 5) & ((1L << (bit & 31)) - 1)) != 0;
        }

        private long limbAt(int i) {
            return i >= 0 && i < LIMBS ? limbs[i] : 0;
        }
    }

    /** START, STEP and JOIN of all OWN folds; all that stands in them is a state, 0 to 7. */
    private static final class Tables {
        // 64 rows are halved six times.
        private static final int DEEPEST_HALVING = 8;

        private int startState = 0;
        private final int[] steps = new int[STATES * OWN_VALUES];
        private final int[] joins = new int[STATES * STATES];
        int wrongRule = 0;
        int wrongS = NOT_WITH_THIS;
        int wrongT = NOT_WITH_THIS;
        int wrongV = NOT_WITH_THIS;

        int setStart(int s) {
            int was = startState;
            startState = s;
            return was;
        }

        int setStep(int s, int v, int to) {
            int was = stepOf(s, v);
            steps[s * OWN_VALUES + v] = to;
            return was;
        }

        int setJoin(int s, int t, int to) {
            int was = joinOf(s, t);
            joins[s * STATES + t] = to;
            return was;
        }

        int stateOf(Fold f) {
            int state = startState;
            for (int i = 0; i < f.size; i++) {
                state = stepOf(state, (int) f.values[i]);
            }
            return state;
        }

        int joinAll(Fold f, int way) {
            if (f.size == 0) {
                return startState;
            }
            if (way == 0) {
                return joinHalves(f, 0, f.size, 0);
            }
            return way == 1 ? joinFromLeft(f) : joinFromRight(f);
        }

        private int joinHalves(Fold f, int first, int count, int depth) {
            if (count <= 1 || depth >= DEEPEST_HALVING) {
                return firstStep(f, first);
            }
            int half = count / 2;
            int front = joinHalves(f, first, half, depth + 1);
            int back = joinHalves(f, first + half, count - half, depth + 1);
            return joinOf(front, back);
        }

        private int joinFromLeft(Fold f) {
            int done = firstStep(f, 0);
            for (int i = 1; i < f.size; i++) {
                done = joinOf(done, firstStep(f, i));
            }
            return done;
        }

        private int joinFromRight(Fold f) {
            int done = firstStep(f, f.size - 1);
            for (int i = f.size - 2; i >= 0; i--) {
                done = joinOf(firstStep(f, i), done);
            }
            return done;
        }

        private int firstStep(Fold f, int place) {
            return place >= 0 && place < f.size ? stepOf(startState, (int) f.values[place]) : startState;
        }

        /** Looks for the first that is wrong, and keeps what it is, by s, then rule 1, then rule 2 by t and v. */
        void lookThrough() {
            keepWrong(0, NOT_WITH_THIS, NOT_WITH_THIS, NOT_WITH_THIS);
            int reached = reachedStates();
            for (int s = 0; s < STATES && wrongRule == 0; s++) {
                if (holds(reached, s)) {
                    lookThroughFrom(s, reached);
                }
            }
        }

        private void lookThroughFrom(int s, int reached) {
            if (joinOf(s, startState) != s) {
                keepWrong(1, s, NOT_WITH_THIS, NOT_WITH_THIS);
                return;
            }
            for (int t = 0; t < STATES && wrongRule == 0; t++) {
                if (holds(reached, t)) {
                    lookThroughSteps(s, t);
                }
            }
        }

        private void lookThroughSteps(int s, int t) {
            for (int v = 0; v < OWN_VALUES; v++) {
                if (joinOf(s, stepOf(t, v)) != stepOf(joinOf(s, t), v)) {
                    keepWrong(2, s, t, v);
                    return;
                }
            }
        }

        private void keepWrong(int rule, int s, int t, int v) {
            wrongRule = rule;
            wrongS = s;
            wrongT = t;
            wrongV = v;
        }

        /** A bit for each state; every round but the last reaches one more, so as many as there are states do. */
        private int reachedStates() {
            int reached = 1 << startState;
            for (int round = 0; round < STATES; round++) {
                for (int s = 0; s < STATES; s++) {
                    if (holds(reached, s)) {
                        reached |= stepsFrom(s);
                    }
                }
            }
            return reached;
        }

        private int stepsFrom(int s) {
            int found = 0;
            for (int v = 0; v < OWN_VALUES; v++) {
                found |= 1 << stepOf(s, v);
            }
            return found;
        }

        private static boolean holds(int states, int s) {
            return ((states >> s) & 1) != 0;
        }

        private int stepOf(int s, int v) {
            return isState(s) && v >= 0 && v < OWN_VALUES ? steps[s * OWN_VALUES + v] : 0;
        }

        private int joinOf(int s, int t) {
            return isState(s) && isState(t) ? joins[s * STATES + t] : 0;
        }
    }
}
