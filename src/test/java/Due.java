import java.util.function.LongSupplier;
import java.util.function.Supplier;
import java.util.function.ToLongFunction;

/** Counts the answers of one test that are not the ones that are due, sentence of the document by sentence. */
final class Due {
    private static final int MOST_TOLD = 40;
    private String words = "";
    private int sentences = 0;
    private int asked = 0;
    private int wrong = 0;

    /** Runs the test of one sentence; one that asks nothing is a fault, and so is an exception that comes out of it. */
    void sentence(String text, Runnable test) {
        words = "[" + text + "] ";
        sentences++;
        int before = asked;
        try {
            test.run();
        } catch (RuntimeException e) {
            tell("came to an end by " + e);
        }
        if (asked == before) {
            tell("asks nothing");
        }
        words = "";
    }

    void answer(String call, long got, long want) {
        asked++;
        if (got != want) {
            tell(call + " answered " + got + ", due is " + want);
        }
    }

    void answer(String call, boolean got, boolean want) {
        answer(call, got ? 1 : 0, want ? 1 : 0);
    }

    void thrown(String call, LongSupplier asks, Class<? extends RuntimeException> want) {
        String got = Looks.told(asks);
        answer(call + " told " + got + ", due is " + want.getSimpleName(), got.equals("throws." + want.getName()), true);
    }

    /** The answer of a call that is refused, and that the object tells all that one without this call tells. */
    void refused(String call, Supplier<ExactFolds> made, ToLongFunction<ExactFolds> asks, long want) {
        ExactFolds x = made.get();
        answer(call, asks.applyAsLong(x), want);
        unchanged(call, x, made);
    }

    void refusedBy(String call, Supplier<ExactFolds> made, ToLongFunction<ExactFolds> asks,
            Class<? extends RuntimeException> want) {
        ExactFolds x = made.get();
        thrown(call, () -> asks.applyAsLong(x), want);
        unchanged(call, x, made);
    }

    private void unchanged(String call, ExactFolds x, Supplier<ExactFolds> made) {
        answer(call + " changes nothing", Looks.at(x).equals(Looks.at(made.get())), true);
    }

    void tell(String fault) {
        wrong++;
        if (wrong <= MOST_TOLD) {
            System.out.println(words + fault);
        }
    }

    void end() {
        String all = (sentences == 0 ? "" : sentences + " sentences, ") + asked + " answers, ";
        System.out.println(all + (wrong == 0 ? "all as due" : wrong + " not as due"));
        if (asked == 0 || wrong != 0) {
            System.exit(1);
        }
    }
}
