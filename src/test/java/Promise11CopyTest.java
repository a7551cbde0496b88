/** Promise 11: copy. */
final class Promise11CopyTest {
    private static final Due due = new Due("promise 11");

    public static void main(String[] args) {
        tellsOfACopy();
        tellsApartTermAndPromise();
        refusesWrongInputs();
        copiesOfAllByAll();
        aCopyOfVersionZeroIsACopy();
        due.end();
    }

    private static void tells(String when, PromiseHours x, int reader, int thing, int... wants) {
        for (int what = 0; what < wants.length; what++) {
            due.is(when + ": copy(" + reader + ", " + thing + ", " + what + ")",
                    x.copy(reader, thing, what), wants[what]);
        }
    }

    private static void tellsOfACopy() {
        PromiseHours x = new PromiseHours();
        x.write(11, 0);
        x.write(11, 0);
        x.pass(3);
        x.read(4, 11);
        tells("a COPY", x, 4, 11, 2, 43, 43, 1);
        tells("another READER", x, 3, 11, PromiseHours.NONE, 0, 0, 0);
        tells("another THING", x, 4, 10, PromiseHours.NONE, 0, 0, 0);
        x.pass(8);
        tells("to the VOLUME's TERM", x, 4, 11, 2, 43, 43, 1);
        x.pass(1);
        tells("from the VOLUME's TERM on", x, 4, 11, 2, 43, 43, 0);
        x.read(4, 10);
        tells("the VOLUME is RENEWED", x, 4, 11, 2, 43, 43, 1);
        x.write(11, 1);
        tells("after a LETTER", x, 4, 11, PromiseHours.NONE, 0, 0, 0);
    }

    private static void tellsApartTermAndPromise() {
        PromiseHours x = new PromiseHours();
        x.read(0, 0);
        x.pass(10);
        x.write(0, 0);
        tells("after the LIST", x, 0, 0, 0, 40, 0, 0);
        x.skew(0, -5);
        tells("after the LIST, slow", x, 0, 0, 0, 40, 0, 1);
    }

    private static void refusesWrongInputs() {
        PromiseHours x = Scenes.busy();
        int[] before = Told.all(x);
        int[][] calls = {
            {-1, 0, 0, PromiseHours.UNKNOWN}, {5, 0, 0, PromiseHours.UNKNOWN},
            {0, -1, 0, PromiseHours.UNKNOWN}, {0, 12, 0, PromiseHours.UNKNOWN},
            {5, 0, 4, PromiseHours.UNKNOWN}, {0, 12, -1, PromiseHours.UNKNOWN},
            {Integer.MIN_VALUE, 0, 0, PromiseHours.UNKNOWN}, {0, Integer.MAX_VALUE, 0, PromiseHours.UNKNOWN},
            {0, 0, -1, PromiseHours.OUTSIDE}, {4, 11, 4, PromiseHours.OUTSIDE},
            {0, 0, Integer.MIN_VALUE, PromiseHours.OUTSIDE}, {0, 0, Integer.MAX_VALUE, PromiseHours.OUTSIDE}};
        for (int[] c : calls) {
            due.is("copy(" + c[0] + ", " + c[1] + ", " + c[2] + ")", x.copy(c[0], c[1], c[2]), c[3]);
        }
        due.same("refused calls", before, x);
    }

    private static void copiesOfAllByAll() {
        PromiseHours x = Scenes.full();
        for (int r = 0; r < Told.READERS; r++) {
            for (int t = 0; t < Told.THINGS; t++) {
                tells("full", x, r, t, 0, 41, 41, 1);
            }
        }
        x.pass(10);
        for (int r = 0; r < Told.READERS; r++) {
            for (int t = 0; t < Told.THINGS; t++) {
                tells("all on LISTS", x, r, t, 0, 41, 0, 0);
            }
        }
    }

    /** "the VERSION of its COPY (what = 0; NONE)": VERSION 0 is not NONE. */
    private static void aCopyOfVersionZeroIsACopy() {
        PromiseHours x = new PromiseHours();
        tells("none", x, 4, 11, PromiseHours.NONE, 0, 0, 0);
        x.read(4, 11);
        tells("VERSION 0", x, 4, 11, 0, 40, 40, 1);
        for (int i = 0; i < 100; i++) {
            x.write(11, 1);
        }
        tells("none again", x, 4, 11, PromiseHours.NONE, 0, 0, 0);
        x.read(4, 11);
        tells("VERSION 100", x, 4, 11, 100, 40, 40, 1);
    }
}
