/** Promise 4: there. */
final class Promise04ThereTest {
    private static final Due due = new Due("promise 4");

    public static void main(String[] args) {
        settlesOnComingBack();
        settlesAllOnComingBack();
        doesNothingIfItWasSoBefore();
        sendsNoLetterAtWayZero();
        refusesWrongInputs();
        twelveWritesAreDoneByOneComingBack();
        noWriteIsDoneIfNoneWaits();
        goingAwayIsZero();
        due.end();
    }

    private static void settlesOnComingBack() {
        PromiseHours x = new PromiseHours();
        x.read(1, 4);
        due.is("there(1, 0)", x.there(1, 0), 0);
        due.is("reader(1, 0)", x.reader(1, 0), 0);
        due.is("write(4, 1)", x.write(4, 1), 10);
        due.is("another comes back", x.there(0, 0) + x.there(0, 1), 0);
        due.is("there(1, 1)", x.there(1, 1), 1);
        due.is("reader(1, 0)", x.reader(1, 0), 1);
        due.is("a LETTER", x.reader(1, 6), 1);
        due.is("no COPY", x.copy(1, 4, 0), PromiseHours.NONE);
        due.is("VERSION", x.thing(4, 0), 1);
    }

    private static void settlesAllOnComingBack() {
        PromiseHours x = new PromiseHours();
        for (int t = 11; t >= 8; t--) {
            x.read(3, t);
        }
        x.read(2, 9);
        x.there(3, 0);
        x.there(2, 0);
        x.write(11, 1);
        x.write(9, 1);
        x.write(8, 1);
        x.write(10, 0);
        due.is("there(3, 1)", x.there(3, 1), 2);
        due.is("waiting(0)", x.waiting(0), 9);
        due.is("waiting(1)", x.waiting(1), 10);
        due.is("waiting(2)", x.waiting(2), PromiseHours.NONE);
        due.is("HOLDERS of 9", x.thing(9, 4), 1 << 2);
        due.is("there(2, 1)", x.there(2, 1), 1);
        due.is("LETTERS", x.count(5), 4);
    }

    private static void doesNothingIfItWasSoBefore() {
        PromiseHours x = Scenes.busy();
        int[] before = Told.all(x);
        due.is("there(1, 0) again", x.there(1, 0), 0);
        due.is("there(0, 1) again", x.there(0, 1), 0);
        due.same("what was so before", before, x);
    }

    private static void sendsNoLetterAtWayZero() {
        PromiseHours x = new PromiseHours();
        x.read(0, 0);
        x.there(0, 0);
        x.write(0, 0);
        due.is("there(0, 1) at way 0", x.there(0, 1), 0);
        due.is("it WAITS", x.thing(0, 1), 1);
        due.is("no LETTER", x.count(5), 0);
    }

    private static void refusesWrongInputs() {
        PromiseHours x = Scenes.busy();
        int[] before = Told.all(x);
        int[][] calls = {
            {-1, 1, PromiseHours.UNKNOWN}, {5, 0, PromiseHours.UNKNOWN}, {5, 2, PromiseHours.UNKNOWN},
            {1, 2, PromiseHours.OUTSIDE}, {1, -1, PromiseHours.OUTSIDE},
            {0, Integer.MIN_VALUE, PromiseHours.OUTSIDE}, {Integer.MAX_VALUE, 1, PromiseHours.UNKNOWN}};
        for (int[] c : calls) {
            String call = "there(" + c[0] + ", " + c[1] + ")";
            due.is(call, x.there(c[0], c[1]), c[2]);
            due.same(call, before, x);
        }
    }

    /** "how many WRITES are DONE by this": none and all. */
    private static void twelveWritesAreDoneByOneComingBack() {
        PromiseHours x = new PromiseHours();
        for (int t = 0; t < Told.THINGS; t++) {
            x.read(4, t);
        }
        x.there(4, 0);
        for (int t = 0; t < Told.THINGS; t++) {
            x.write(t, 1);
        }
        due.is("all WAIT", x.count(4), 12);
        due.is("another goes and comes", x.there(0, 0) + x.there(0, 1), 0);
        due.is("there(4, 1)", x.there(4, 1), 12);
        due.is("none WAITS", x.count(4), 0);
        due.is("LETTERS", x.reader(4, 6), 12);
    }

    private static void noWriteIsDoneIfNoneWaits() {
        PromiseHours x = new PromiseHours();
        for (int r = 0; r < Told.READERS; r++) {
            due.is("there(" + r + ", 1) as at first", x.there(r, 1), 0);
            due.is("there(" + r + ", 0)", x.there(r, 0), 0);
            due.is("reader(" + r + ", 0)", x.reader(r, 0), 0);
            due.is("there(" + r + ", 0) again", x.there(r, 0), 0);
            due.is("there(" + r + ", 1)", x.there(r, 1), 0);
            due.is("reader(" + r + ", 0)", x.reader(r, 0), 1);
        }
    }

    private static void goingAwayIsZero() {
        PromiseHours x = Scenes.busy();
        due.is("there(0, 0) while WRITES WAIT", x.there(0, 0), 0);
        due.is("WAIT", x.count(4), 2);
        due.is("there(0, 1), whom no WRITE waits for", x.there(0, 1), 0);
        due.is("there(3, 1), one of two", x.there(3, 1), 0);
        due.is("there(1, 1), the other", x.there(1, 1), 1);
    }
}
