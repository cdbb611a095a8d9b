/** Counts the answers of one test that are not the ones that are due. */
final class Due {
    private static final int MOST_TOLD = 40;
    private int asked = 0;
    private int wrong = 0;

    void answer(String call, long got, long want) {
        asked++;
        if (got != want) {
            tell(call + " answered " + got + ", due is " + want);
        }
    }

    void answer(String call, boolean got, boolean want) {
        answer(call, got ? 1 : 0, want ? 1 : 0);
    }

    void tell(String fault) {
        wrong++;
        if (wrong <= MOST_TOLD) {
            System.out.println(fault);
        }
    }

    void end() {
        System.out.println(wrong == 0 ? asked + " answers, all as due" : wrong + " of " + asked + " answers not as due");
        if (asked == 0 || wrong != 0) {
            System.exit(1);
        }
    }
}
