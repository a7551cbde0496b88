/** Promise 13: reader. */
final class Promise13ReaderTest {
    private static final Due due = new Due("promise 13");

    public static void main(String[] args) {
        tellsEachNumber();
        theLastVersionIsOfTheLastRead();
        refusesWrongInputs();
        skewsAreToldWithAHundred();
        noneWasReadIfAllWasNothing();
        countsFullLists();
        losesOnlyCopiesThatItHas();
        due.end();
    }

    private static void tells(String when, PromiseHours x, int reader, int... wants) {
        for (int what = 0; what < wants.length; what++) {
            due.is(when + ": reader(" + reader + ", " + what + ")", x.reader(reader, what), wants[what]);
        }
    }

    private static void tellsEachNumber() {
        PromiseHours x = new PromiseHours();
        x.skew(2, -3);
        x.read(2, 0);
        x.read(2, 1);
        x.read(2, 4);
        tells("asked", x, 2, 1, 97, 0, 0, 3, 0, 0, 0);
        x.read(2, 0);
        tells("used", x, 2, 1, 97, 0, 1, 3, 0, 0, 0);
        x.write(4, 1);
        tells("a LETTER", x, 2, 1, 97, 0, 1, 3, 0, 1, 0);
        x.there(2, 0);
        x.write(0, 1);
        x.write(1, 0);
        x.pass(10);
        x.read(2, 1);
        tells("used STALE", x, 2, 0, 97, 0, 2, 3, 0, 1, 0);
        x.read(2, 4);
        tells("nothing", x, 2, 0, 97, 0, 2, 3, 1, 1, 0);
        x.there(2, 1);
        x.read(2, 3);
        tells("lost", x, 2, 1, 97, 0, 2, 4, 1, 1, 2);
        tells("another", x, 1, 1, 100, PromiseHours.NONE, 0, 0, 0, 0, 0);
    }

    private static void theLastVersionIsOfTheLastRead() {
        PromiseHours x = new PromiseHours();
        x.write(0, 0);
        x.write(0, 0);
        x.write(1, 0);
        x.read(0, 0);
        due.is("asked", x.reader(0, 2), 2);
        x.read(0, 1);
        due.is("asked", x.reader(0, 2), 1);
        x.read(0, 0);
        due.is("used", x.reader(0, 2), 2);
        x.read(1, 1);
        x.write(1, 0);
        x.read(2, 1);
        due.is("asked while a WRITE WAITS", x.reader(2, 2), 1);
        x.there(0, 0);
        x.read(0, 9);
        due.is("read nothing", x.reader(0, 2), 2);
    }

    private static void refusesWrongInputs() {
        PromiseHours x = Scenes.busy();
        int[] before = Told.all(x);
        int[][] calls = {
            {-1, 0, PromiseHours.UNKNOWN}, {5, 0, PromiseHours.UNKNOWN}, {5, 8, PromiseHours.UNKNOWN},
            {Integer.MIN_VALUE, 0, PromiseHours.UNKNOWN}, {Integer.MAX_VALUE, 0, PromiseHours.UNKNOWN},
            {0, -1, PromiseHours.OUTSIDE}, {4, 8, PromiseHours.OUTSIDE},
            {0, Integer.MIN_VALUE, PromiseHours.OUTSIDE}, {0, Integer.MAX_VALUE, PromiseHours.OUTSIDE}};
        for (int[] c : calls) {
            due.is("reader(" + c[0] + ", " + c[1] + ")", x.reader(c[0], c[1]), c[2]);
        }
        due.same("refused calls", before, x);
    }

    private static void skewsAreToldWithAHundred() {
        PromiseHours x = new PromiseHours();
        int[] skews = {-20, -1, 0, 1, 20};
        for (int r = 0; r < Told.READERS; r++) {
            x.skew(r, skews[r]);
        }
        for (int r = 0; r < Told.READERS; r++) {
            tells("SKEW", x, r, 1, 100 + skews[r]);
        }
    }

    /** "the VERSION that it read last (2; NONE)" */
    private static void noneWasReadIfAllWasNothing() {
        PromiseHours x = new PromiseHours();
        x.there(0, 0);
        x.read(0, 0);
        tells("nothing", x, 0, 0, 100, PromiseHours.NONE, 0, 0, 1, 0, 0);
        x.there(0, 1);
        x.read(0, 0);
        tells("VERSION 0", x, 0, 1, 100, 0, 0, 1, 1, 0, 0);
    }

    private static void countsFullLists() {
        PromiseHours x = Scenes.full();
        x.pass(10);
        x.there(4, 1);
        for (int v = 0; v < Told.VOLUMES; v++) {
            x.read(4, 4 * v);
            due.is("lost with VOLUME " + v, x.reader(4, 7), 4 * (v + 1));
        }
        tells("all lost", x, 4, 1, 100, 1, 0, 15, 0, 0, 12);
        tells("another", x, 3, 0, 100, 0, 0, 12, 0, 0, 0);
    }

    /** "lost a COPY by a LIST": beyond KEEP all of the VOLUME goes, but there may be no COPY of it. */
    private static void losesOnlyCopiesThatItHas() {
        PromiseHours x = new PromiseHours();
        x.rule(3, 0);
        x.read(4, 8);
        x.pass(11);
        x.write(8, 0);
        x.read(4, 9);
        due.is("one of four", x.reader(4, 7), 1);
        x.read(4, 10);
        x.pass(11);
        x.write(10, 0);
        x.read(4, 8);
        due.is("two of four", x.reader(4, 7), 3);
    }
}
