import java.util.ArrayList;
import java.util.List;
import java.util.function.LongSupplier;

/** All that an object tells, one answer behind the other; the object is spent by it (at most some 440 calls). */
final class Looks {
    private static final int[] TIMES = {0, 1, 7, 1000000};

    private final ExactFolds x;
    private final List<String> all = new ArrayList<>();

    private Looks(ExactFolds x) {
        this.x = x;
    }

    static List<String> at(ExactFolds x) {
        Looks looks = new Looks(x);
        int folds = 0;
        while (folds < 12 && x.rows(folds) >= 0) {
            looks.atFold(folds);
            folds++;
        }
        for (int what = 0; what < 4; what++) {
            int asked = what;
            looks.add(() -> x.check(asked));
        }
        for (int f = 0; f < folds; f++) {
            looks.atTimes(f);
        }
        looks.atTables();
        looks.add(() -> x.fold(0));
        return looks.all;
    }

    static String told(LongSupplier call) {
        try {
            return Long.toString(call.getAsLong());
        } catch (RuntimeException e) {
            return "throws." + e.getClass().getName();
        }
    }

    private void add(LongSupplier call) {
        all.add(told(call));
    }

    private void atFold(int f) {
        add(() -> x.rows(f));
        add(() -> x.same(f, f + 1) ? 1 : 0);
        add(() -> x.limb(f, 0));
        add(() -> x.limb(f, 1));
        add(() -> x.limb(f, 2));
        add(() -> x.real(f));
        for (int i = 0; i < 2; i++) {
            int end = i;
            add(() -> x.mean(f, end));
            add(() -> x.spread(f, end));
            add(() -> x.least(f, end));
        }
        add(() -> x.rank(f, 1));
        add(() -> x.unlike(f));
        add(() -> x.state(f));
        add(() -> x.joined(f, 0));
        add(() -> x.joined(f, 1));
        add(() -> x.joined(f, 2));
        int n = x.rows(f);
        for (int i = 0; i < n; i++) {
            int k = i;
            add(() -> x.item(f, k));
        }
    }

    /** No call tells a time: what can be taken back does. */
    private void atTimes(int f) {
        long first = x.item(f, 0);
        for (int time : TIMES) {
            add(() -> x.remove(f, time, first));
            add(() -> x.removeReal(f, time, 0));
        }
    }

    private void atTables() {
        add(() -> x.start(0));
        for (int i = 0; i < 32; i++) {
            int at = i;
            add(() -> x.step(at / 4, at % 4, 0));
        }
        for (int i = 0; i < 64; i++) {
            int at = i;
            add(() -> x.join(at / 8, at % 8, 0));
        }
    }
}
