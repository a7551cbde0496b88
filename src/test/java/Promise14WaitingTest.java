/** Promise 14: waiting. */
final class Promise14WaitingTest {
    private static final Due due = new Due("promise 14");

    public static void main(String[] args) {
        tellsThemAsTheyCame();
        allThingsMayWait();
        noneAtEveryWrongPlace();
        whatIsDoneAtOnceNeverWaits();
        theFirstTheLastAndTheMiddleGo();
        due.end();
    }

    private static void waiting(String when, PromiseHours x, int... wants) {
        for (int i = 0; i < wants.length; i++) {
            due.is(when + ": waiting(" + i + ")", x.waiting(i), wants[i]);
        }
        due.is(when + ": how many", x.count(4), wants.length);
        due.is(when + ": one more", x.waiting(wants.length), PromiseHours.NONE);
        due.is(when + ": waiting(-1)", x.waiting(-1), PromiseHours.NONE);
        due.is(when + ": waiting(12)", x.waiting(12), PromiseHours.NONE);
        due.is(when + ": least", x.waiting(Integer.MIN_VALUE), PromiseHours.NONE);
        due.is(when + ": greatest", x.waiting(Integer.MAX_VALUE), PromiseHours.NONE);
    }

    private static void tellsThemAsTheyCame() {
        PromiseHours x = new PromiseHours();
        waiting("new", x);
        x.read(0, 9);
        x.read(1, 2);
        x.pass(2);
        x.read(2, 5);
        x.read(3, 0);
        x.write(5, 0);
        x.write(9, 0);
        x.write(1, 0);
        x.write(2, 0);
        x.write(0, 0);
        waiting("four", x, 5, 9, 2, 0);
        x.write(9, 0);
        waiting("after a refused WRITE", x, 5, 9, 2, 0);
        x.pass(8);
        waiting("two are DONE", x, 5, 0);
        x.read(4, 9);
        x.write(9, 0);
        waiting("one comes again", x, 5, 0, 9);
        x.pass(2);
        waiting("one", x, 9);
        x.pass(8);
        waiting("none", x);
    }

    private static void allThingsMayWait() {
        PromiseHours x = new PromiseHours();
        for (int t = 0; t < Told.THINGS; t++) {
            x.read(t % Told.READERS, t);
        }
        for (int t = Told.THINGS - 1; t >= 0; t--) {
            due.is("write(" + t + ", 0)", x.write(t, 0), 10);
        }
        waiting("all", x, 11, 10, 9, 8, 7, 6, 5, 4, 3, 2, 1, 0);
        due.is("pass(10)", x.pass(10), 12);
        waiting("none", x);
    }

    /** "NONE: there is none such (i below 0, too)" */
    private static void noneAtEveryWrongPlace() {
        PromiseHours x = Scenes.full();
        waiting("full", x, 11, 10, 9, 8, 7, 6, 5, 4, 3, 2, 1, 0);
        for (int i : Edges.beyond(0, 11)) {
            due.is("full: waiting(" + i + ")", x.waiting(i), PromiseHours.NONE);
        }
        x.pass(100);
        for (int i : Edges.around(0, 11)) {
            due.is("empty: waiting(" + i + ")", x.waiting(i), PromiseHours.NONE);
        }
    }

    private static void whatIsDoneAtOnceNeverWaits() {
        PromiseHours x = new PromiseHours();
        x.write(3, 0);
        waiting("DONE", x);
        x.read(0, 4);
        x.write(4, 0);
        x.write(3, 1);
        waiting("one WAITS, one is DONE", x, 4);
    }

    private static void theFirstTheLastAndTheMiddleGo() {
        for (int early = 0; early < 3; early++) {
            PromiseHours x = new PromiseHours();
            for (int t = 0; t < 3; t++) {
                x.rule(0, t == early ? 4 : 8);
                x.read(t, t);
            }
            x.write(2, 0);
            x.write(0, 0);
            x.write(1, 0);
            waiting("three", x, 2, 0, 1);
            x.pass(4);
            waiting("without " + early, x, early == 2 ? 0 : 2, early == 1 ? 0 : 1);
        }
    }
}
