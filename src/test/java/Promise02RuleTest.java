/** Promise 2: rule. */
final class Promise02RuleTest {
    private static final Due due = new Due("promise 2");

    public static void main(String[] args) {
        answersWhatItWas();
        termsAndPromisesStay();
        newNumbersHoldFromNowOn();
        refusesWhatIsOutside();
        takesEveryNumberOfItsRange();
        eachRangeIsItsOwn();
        allElseStays();
        due.end();
    }

    private static void answersWhatItWas() {
        int[] first = {40, 10, 1, 100};
        int[] least = {1, 1, 0, 0};
        int[] greatest = {200, 100, 9, 500};
        PromiseHours x = new PromiseHours();
        for (int what = 0; what < 4; what++) {
            due.is("rule to the greatest", x.rule(what, greatest[what]), first[what]);
            due.is("count", x.count(10 + what), greatest[what]);
            due.is("rule to the same", x.rule(what, greatest[what]), greatest[what]);
            due.is("rule to the least", x.rule(what, least[what]), greatest[what]);
            due.is("count", x.count(10 + what), least[what]);
        }
    }

    private static void termsAndPromisesStay() {
        PromiseHours x = new PromiseHours();
        x.read(0, 0);
        x.rule(0, 7);
        x.rule(1, 5);
        due.is("TERM", x.copy(0, 0, 1), 40);
        due.is("PROMISE", x.copy(0, 0, 2), 40);
        due.is("TERM of the VOLUME", x.volume(0, 0, 0), 10);
    }

    private static void newNumbersHoldFromNowOn() {
        PromiseHours x = new PromiseHours();
        x.rule(0, 7);
        x.rule(1, 5);
        x.read(0, 0);
        due.is("TERM", x.copy(0, 0, 1), 7);
        due.is("PROMISE", x.copy(0, 0, 2), 7);
        due.is("TERM of the VOLUME", x.volume(0, 0, 0), 5);
        x.rule(2, 4);
        due.is("USE before the TERM of the VOLUME", x.copy(0, 0, 3), 1);
        x.rule(2, 5);
        due.is("USE with a greater DOUBT", x.copy(0, 0, 3), 0);
    }

    private static void refusesWhatIsOutside() {
        PromiseHours x = Scenes.busy();
        int[] before = Told.all(x);
        int[][] calls = {
            {-1, 5}, {4, 5}, {Integer.MIN_VALUE, 5}, {Integer.MAX_VALUE, 5},
            {0, 0}, {0, 201}, {1, 0}, {1, 101}, {2, -1}, {2, 10}, {3, -1}, {3, 501},
            {0, Integer.MIN_VALUE}, {3, Integer.MAX_VALUE}};
        for (int[] c : calls) {
            String call = "rule(" + c[0] + ", " + c[1] + ")";
            due.is(call, x.rule(c[0], c[1]), PromiseHours.OUTSIDE);
            due.same(call, before, x);
        }
    }

    /** "LONG is 1 to 200 (40 at first), SHORT 1 to 100 (10), DOUBT 0 to 9 (1), KEEP 0 to 500 (100)" */
    private static void takesEveryNumberOfItsRange() {
        int[][] ranges = {{1, 200, 40}, {1, 100, 10}, {0, 9, 1}, {0, 500, 100}};
        for (int what = 0; what < ranges.length; what++) {
            PromiseHours x = new PromiseHours();
            int was = ranges[what][2];
            for (int n = ranges[what][0] - 2; n <= ranges[what][1] + 2; n++) {
                boolean taken = n >= ranges[what][0] && n <= ranges[what][1];
                String call = "rule(" + what + ", " + n + ")";
                due.is(call, x.rule(what, n), taken ? was : PromiseHours.OUTSIDE);
                was = taken ? n : was;
                due.is(call + ": count", x.count(10 + what), was);
            }
        }
    }

    private static void eachRangeIsItsOwn() {
        PromiseHours x = new PromiseHours();
        due.is("LONG 101, too much for SHORT", x.rule(0, 101), 40);
        due.is("SHORT 101", x.rule(1, 101), PromiseHours.OUTSIDE);
        due.is("SHORT 10, too much for DOUBT", x.rule(1, 10), 10);
        due.is("DOUBT 10", x.rule(2, 10), PromiseHours.OUTSIDE);
        due.is("DOUBT 0, too little for LONG", x.rule(2, 0), 1);
        due.is("LONG 0", x.rule(0, 0), PromiseHours.OUTSIDE);
        due.is("KEEP 201, too much for LONG", x.rule(3, 201), 100);
        due.is("LONG 201", x.rule(0, 201), PromiseHours.OUTSIDE);
    }

    /** "TERMS and PROMISES stay", and so do WRITES that WAIT, LISTS and counts. */
    private static void allElseStays() {
        int[] greatest = {200, 100, 9, 500};
        int[] least = {1, 1, 0, 0};
        int[] first = {40, 10, 1, 100};
        PromiseHours x = Scenes.busy();
        int[] before = Told.all(x);
        for (int what = 0; what < 4; what++) {
            int was = x.count(10 + what);
            due.is("busy, rule " + what, was, first[what]);
            x.rule(what, greatest[what]);
            x.rule(what, least[what]);
            due.is("rule back", x.rule(what, was), least[what]);
        }
        due.same("rules there and back", before, x);
    }
}
