import java.util.List;

/** Compares answers with those that are due, and ends a test. */
final class Due {
    private int asked;
    private int wrong;

    void is(String call, long got, long want) {
        asked++;
        if (got != want) {
            wrong++;
            System.out.println(call + " answered " + got + ", due is " + want);
        }
    }

    void same(String call, List<Integer> got, List<Integer> want) {
        asked++;
        if (!got.equals(want)) {
            wrong++;
            System.out.println(call + " differs " + Told.firstDifference(got, want));
        }
    }

    int wrong() {
        return wrong;
    }

    void end() {
        System.out.println(asked + " answers, " + wrong + " wrong");
        if (wrong != 0 || asked == 0) {
            System.exit(1);
        }
    }
}
