/** Promise 10: thing. */
final class Promise10ThingTest {
    private static final Due due = new Due("promise 10");

    public static void main(String[] args) {
        tellsOfAWriteThatWaits();
        tellsSetsOfReaders();
        dueMovesWithARenewal();
        refusesWrongInputs();
        setsAreFull();
        setsAreOfEachReader();
        due.end();
    }

    private static void tells(String when, PromiseHours x, int thing, int... wants) {
        for (int what = 0; what < wants.length; what++) {
            due.is(when + ": thing(" + thing + ", " + what + ")", x.thing(thing, what), wants[what]);
        }
    }

    private static void tellsOfAWriteThatWaits() {
        PromiseHours x = new PromiseHours();
        x.pass(5);
        x.read(1, 11);
        x.there(1, 0);
        tells("a COPY", x, 11, 0, 0, PromiseHours.NONE, PromiseHours.NONE, 2, 2, 2);
        x.write(11, 1);
        tells("it WAITS", x, 11, 0, 1, 1, 15, 2, 2, 2);
        tells("another", x, 10, 0, 0, PromiseHours.NONE, PromiseHours.NONE, 0, 0, 0);
        x.pass(9);
        tells("it WAITS still", x, 11, 0, 1, 1, 15, 2, 2, 0);
        x.pass(1);
        tells("it is DONE", x, 11, 1, 0, PromiseHours.NONE, PromiseHours.NONE, 0, 2, 0);
        x.there(1, 1);
        x.read(1, 11);
        x.write(11, 0);
        tells("way 0", x, 11, 1, 1, 0, 25, 2, 2, 2);
    }

    private static void tellsSetsOfReaders() {
        PromiseHours x = new PromiseHours();
        x.rule(0, 20);
        x.rule(1, 30);
        x.read(0, 0);
        x.read(1, 0);
        x.read(4, 0);
        x.skew(1, 20);
        x.skew(4, -10);
        tells("one is fast", x, 0, 0, 0, PromiseHours.NONE, PromiseHours.NONE, 19, 19, 17);
        x.pass(19);
        tells("before the PROMISE's end", x, 0, 0, 0, PromiseHours.NONE, PromiseHours.NONE, 19, 19, 16);
        x.pass(1);
        tells("at the PROMISE's end", x, 0, 0, 0, PromiseHours.NONE, PromiseHours.NONE, 0, 19, 16);
    }

    private static void dueMovesWithARenewal() {
        PromiseHours x = new PromiseHours();
        x.read(0, 0);
        x.rule(0, 14);
        x.read(1, 0);
        x.write(0, 0);
        x.pass(9);
        due.is("DUE", x.thing(0, 3), 10);
        x.read(1, 1);
        due.is("DUE, by the PROMISE of 1", x.thing(0, 3), 14);
        x.read(0, 1);
        due.is("DUE, by the VOLUME's TERM of 0", x.thing(0, 3), 19);
        due.is("pass(9)", x.pass(9), 0);
        due.is("pass(1)", x.pass(1), 1);
    }

    private static void refusesWrongInputs() {
        PromiseHours x = Scenes.busy();
        int[] before = Told.all(x);
        int[][] calls = {
            {-1, 0, PromiseHours.UNKNOWN}, {12, 0, PromiseHours.UNKNOWN}, {12, 7, PromiseHours.UNKNOWN},
            {Integer.MIN_VALUE, 0, PromiseHours.UNKNOWN}, {Integer.MAX_VALUE, 0, PromiseHours.UNKNOWN},
            {0, -1, PromiseHours.OUTSIDE}, {11, 7, PromiseHours.OUTSIDE},
            {0, Integer.MIN_VALUE, PromiseHours.OUTSIDE}, {0, Integer.MAX_VALUE, PromiseHours.OUTSIDE}};
        for (int[] c : calls) {
            due.is("thing(" + c[0] + ", " + c[1] + ")", x.thing(c[0], c[1]), c[2]);
        }
        due.same("refused calls", before, x);
    }

    private static void setsAreFull() {
        PromiseHours x = Scenes.full();
        for (int t = 0; t < Told.THINGS; t++) {
            tells("all hold it", x, t, 0, 1, t % 2, 11, 31, 31, 31);
        }
        x.pass(10);
        for (int t = 0; t < Told.THINGS; t++) {
            tells("all have old COPIES", x, t, 1, 0, PromiseHours.NONE, PromiseHours.NONE, 0, 31, 0);
        }
    }

    private static void setsAreOfEachReader() {
        for (int r = 0; r < Told.READERS; r++) {
            PromiseHours x = new PromiseHours();
            x.read(r, 6);
            tells("READER " + r, x, 6, 0, 0, PromiseHours.NONE, PromiseHours.NONE, 1 << r, 1 << r, 1 << r);
            tells("the THING before", x, 5, 0, 0, PromiseHours.NONE, PromiseHours.NONE, 0, 0, 0);
            tells("the THING after", x, 7, 0, 0, PromiseHours.NONE, PromiseHours.NONE, 0, 0, 0);
        }
    }
}
