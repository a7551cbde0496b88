/** Promise 6 and the Terms' third paragraph: write. */
final class Promise06WriteTest {
    private static final Due due = new Due("promise 6");

    public static void main(String[] args) {
        isDoneIfNobodyHolds();
        waitsForTheLesserOfPromiseAndTerm();
        breaksByLetters();
        putsOnTheListThoseWhoseTermIsPast();
        doesNotListTwice();
        tellsAWriteAfterItIsDone();
        refusesInOrder();
        tellsTheLeastAndTheMostTicks();
        allThingsWaitAndRefuse();
        anotherWayDoesNotBreakWhatWaits();
        due.end();
    }

    private static void isDoneIfNobodyHolds() {
        PromiseHours x = new PromiseHours();
        for (int t = 0; t < Told.THINGS; t++) {
            due.is("write(" + t + ", 0)", x.write(t, 0), 0);
            due.is("write(" + t + ", 1)", x.write(t, 1), 0);
            due.is("VERSION", x.thing(t, 0), 2);
            due.is("it WAITS", x.thing(t, 1), 0);
        }
        due.is("told", x.count(2), 24);
        due.is("DONE", x.count(3), 24);
    }

    private static void waitsForTheLesserOfPromiseAndTerm() {
        PromiseHours x = new PromiseHours();
        x.read(0, 0);
        due.is("write(0, 0): the VOLUME's TERM", x.write(0, 0), 10);
        x.rule(0, 6);
        x.read(0, 1);
        x.pass(1);
        due.is("write(1, 0): the PROMISE", x.write(1, 0), 5);
        due.is("pass(4)", x.pass(4), 0);
        due.is("pass(1)", x.pass(1), 1);
        due.is("no LIST by a PROMISE that is over", x.volume(0, 0, 2), 0);
        due.is("PROMISE stays as it was", x.copy(0, 1, 2), 6);
        due.is("write(1, 0): the PROMISE is over", x.write(1, 0), 0);
    }

    private static void breaksByLetters() {
        PromiseHours x = new PromiseHours();
        x.read(0, 0);
        x.read(1, 0);
        x.read(2, 0);
        x.read(2, 1);
        x.there(1, 0);
        due.is("write(0, 1)", x.write(0, 1), 10);
        due.is("LETTERS", x.count(5), 2);
        due.is("LETTERS to 0", x.reader(0, 6), 1);
        due.is("LETTERS to 1", x.reader(1, 6), 0);
        due.is("LETTERS to 2", x.reader(2, 6), 1);
        due.is("READERS with a COPY", x.thing(0, 5), 1 << 1);
        due.is("TERM of 0", x.copy(0, 0, 1), 0);
        due.is("PROMISE of 0", x.copy(0, 0, 2), 0);
        due.is("the VOLUME's TERM of 0 stays", x.volume(0, 0, 0), 10);
        due.is("another COPY stays", x.copy(2, 1, 0), 0);
        due.is("lost by no LIST", x.reader(0, 7), 0);
    }

    private static void putsOnTheListThoseWhoseTermIsPast() {
        PromiseHours x = new PromiseHours();
        x.read(0, 0);
        x.pass(10);
        due.is("write(0, 1): the TERM is no greater than TICK", x.write(0, 1), 0);
        due.is("LIST", x.volume(0, 0, 2), 1);
        due.is("PROMISE", x.copy(0, 0, 2), 0);
        due.is("TERM stays", x.copy(0, 0, 1), 40);
        due.is("COPY stays", x.copy(0, 0, 0), 0);
        due.is("no LETTER", x.count(5), 0);
        due.is("on a LIST", x.count(6), 1);
    }

    private static void doesNotListTwice() {
        PromiseHours x = new PromiseHours();
        x.read(0, 0);
        x.read(0, 1);
        x.pass(10);
        due.is("write(0, 0)", x.write(0, 0), 0);
        due.is("write(0, 0)", x.write(0, 0), 0);
        due.is("write(1, 0)", x.write(1, 0), 0);
        due.is("on a LIST", x.count(6), 2);
        due.is("LIST", x.volume(0, 0, 2), 3);
    }

    private static void tellsAWriteAfterItIsDone() {
        PromiseHours x = new PromiseHours();
        x.read(0, 0);
        x.write(0, 0);
        due.is("write(0, 1) while it WAITS", x.write(0, 1), PromiseHours.NO);
        due.is("its way", x.thing(0, 2), 0);
        x.pass(10);
        due.is("write(0, 1) after it", x.write(0, 1), 0);
        due.is("VERSION", x.thing(0, 0), 2);
        due.is("told", x.count(2), 2);
    }

    private static void refusesInOrder() {
        PromiseHours x = Scenes.busy();
        int[] before = Told.all(x);
        int[][] calls = {
            {-1, 0, PromiseHours.UNKNOWN}, {12, 1, PromiseHours.UNKNOWN}, {12, 2, PromiseHours.UNKNOWN},
            {Integer.MIN_VALUE, -1, PromiseHours.UNKNOWN}, {Integer.MAX_VALUE, 0, PromiseHours.UNKNOWN},
            {0, -1, PromiseHours.OUTSIDE}, {0, 2, PromiseHours.OUTSIDE}, {1, 2, PromiseHours.OUTSIDE},
            {5, Integer.MIN_VALUE, PromiseHours.OUTSIDE},
            {1, 0, PromiseHours.NO}, {1, 1, PromiseHours.NO}, {5, 1, PromiseHours.NO}};
        for (int[] c : calls) {
            String call = "write(" + c[0] + ", " + c[1] + ")";
            due.is(call, x.write(c[0], c[1]), c[2]);
            due.same(call, before, x);
        }
    }

    /** "how many TICKS it is till DUE": no less than 1 if it WAITS, no more than the greatest SHORT. */
    private static void tellsTheLeastAndTheMostTicks() {
        PromiseHours x = new PromiseHours();
        x.rule(0, 200);
        x.rule(1, 100);
        x.read(0, 0);
        due.is("the most", x.write(0, 0), 100);
        x.read(1, 1);
        x.pass(99);
        due.is("the least", x.write(1, 0), 1);
        due.is("pass(1)", x.pass(1), 2);
        x.read(2, 2);
        x.rule(0, 1);
        x.read(2, 3);
        due.is("the least by LONG", x.write(3, 0), 1);
        due.is("it WAITS", x.write(3, 1), PromiseHours.NO);
    }

    private static void allThingsWaitAndRefuse() {
        PromiseHours x = Scenes.full();
        int[] before = Told.all(x);
        for (int t = 0; t < Told.THINGS; t++) {
            due.is("DUE of " + t, x.thing(t, 3), 11);
            due.is("write(" + t + ", 0)", x.write(t, 0), PromiseHours.NO);
            due.is("write(" + t + ", 1)", x.write(t, 1), PromiseHours.NO);
        }
        due.same("refused WRITES", before, x);
        due.is("told", x.count(2), 12);
        due.is("pass(10)", x.pass(10), 12);
        due.is("write(0, 0) after it", x.write(0, 0), 0);
    }

    /** "NO: a WRITE of this THING WAITS": another way does not change it. */
    private static void anotherWayDoesNotBreakWhatWaits() {
        PromiseHours x = new PromiseHours();
        x.read(0, 0);
        x.write(0, 0);
        due.is("write(0, 1)", x.write(0, 1), PromiseHours.NO);
        due.is("no LETTER", x.count(5), 0);
        due.is("COPY", x.copy(0, 0, 0), 0);
        due.is("way", x.thing(0, 2), 0);
        due.is("a THING beside it", x.write(1, 1), 0);
    }
}
