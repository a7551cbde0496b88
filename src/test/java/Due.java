import java.util.Arrays;

/** Counts the answers that are not as due, and ends a test. */
final class Due {
    private static final int MOST_PRINTED = 40;

    private final String test;
    private int asked = 0;
    private int wrong = 0;

    Due(String test) {
        this.test = test;
    }

    void is(String call, int got, int want) {
        asked++;
        if (got != want) {
            report(call + " answered " + got + ", due is " + want);
        }
    }

    void holds(String what, boolean got) {
        is(what, got ? 1 : 0, 1);
    }

    /** All that is told of an object is as it was told before. */
    void same(String after, int[] before, PromiseHours x) {
        int[] now = Told.all(x);
        asked++;
        if (!Arrays.equals(before, now)) {
            report("after " + after + ": " + Told.difference(before, now));
        }
    }

    private void report(String text) {
        wrong++;
        // One fault may show in every later answer of a long run.
        if (wrong <= MOST_PRINTED) {
            System.out.println(test + ": " + text);
        }
    }

    void end() {
        System.out.println(test + ": " + asked + " answers, " + wrong + " not as due");
        if (wrong != 0 || asked == 0) {
            System.exit(1);
        }
    }
}
