import java.util.Arrays;

/** Counts the answers that are not as due, and ends a test. */
final class Due {
    private final String test;
    private int asked = 0;
    private int wrong = 0;

    Due(String test) {
        this.test = test;
    }

    void is(String call, int got, int want) {
        asked++;
        if (got != want) {
            wrong++;
            System.out.println(test + ": " + call + " answered " + got + ", due is " + want);
        }
    }

    void holds(String what, boolean got) {
        is(what, got ? 1 : 0, 1);
    }

    /** All that is told of an object is as it was told before. */
    void same(String after, int[] before, PromiseHours x) {
        int[] now = Told.all(x);
        asked++;
        if (!Arrays.equals(before, now)) {
            wrong++;
            System.out.println(test + ": after " + after + ": " + Told.difference(before, now));
        }
    }

    void end() {
        System.out.println(test + ": " + asked + " answers, " + wrong + " not as due");
        if (wrong != 0 || asked == 0) {
            System.exit(1);
        }
    }
}
