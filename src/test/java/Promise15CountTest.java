/** Promise 15: count. */
final class Promise15CountTest {
    private static final Due due = new Due("promise 15");

    public static void main(String[] args) {
        tellsEachNumber();
        tellsImagesAndRules();
        refusesWhatIsOutside();
        countsWhatIsFull();
        imagesAreEverySet();
        nineIsNoNumber();
        due.end();
    }

    private static void tells(String when, PromiseHours x, int... wants) {
        for (int what = 0; what < wants.length; what++) {
            due.is(when + ": count(" + what + ")", x.count(what), wants[what]);
        }
    }

    private static void tellsEachNumber() {
        PromiseHours x = new PromiseHours();
        x.skew(0, -9);
        x.read(0, 0);
        x.read(0, 4);
        x.read(1, 0);
        tells("RENEWED", x, 0, 0, 0, 0, 0, 0, 0, 3);
        x.there(0, 0);
        x.write(0, 1);
        tells("a LETTER, and one WAITS", x, 0, 0, 1, 0, 1, 1, 0, 3);
        x.write(11, 0);
        tells("DONE", x, 0, 0, 2, 1, 1, 1, 0, 3);
        x.write(0, 0);
        x.write(11, 5);
        tells("refused", x, 0, 0, 2, 1, 1, 1, 0, 3);
        x.pass(12);
        tells("on a LIST", x, 12, 0, 2, 2, 0, 1, 1, 3);
        x.read(0, 0);
        tells("STALE", x, 12, 1, 2, 2, 0, 1, 1, 3);
        x.read(0, 4);
        tells("not STALE", x, 12, 1, 2, 2, 0, 1, 1, 3);
        x.there(0, 1);
        x.read(0, 1);
        tells("RENEWED with a LIST", x, 12, 1, 2, 2, 0, 1, 1, 4);
    }

    private static void tellsImagesAndRules() {
        PromiseHours x = new PromiseHours();
        x.rule(0, 11);
        x.rule(1, 12);
        x.rule(2, 3);
        x.rule(3, 14);
        due.is("LONG", x.count(10), 11);
        due.is("SHORT", x.count(11), 12);
        due.is("DOUBT", x.count(12), 3);
        due.is("KEEP", x.count(13), 14);
        x.image(1);
        due.is("IMAGES", x.count(8), 2);
        x.image(0);
        due.is("IMAGES", x.count(8), 3);
    }

    private static void refusesWhatIsOutside() {
        PromiseHours x = Scenes.busy();
        int[] before = Told.all(x);
        for (int what : new int[] {-1, 9, 14, Integer.MIN_VALUE, Integer.MAX_VALUE}) {
            due.is("count(" + what + ")", x.count(what), PromiseHours.OUTSIDE);
        }
        due.same("refused calls", before, x);
    }

    private static void countsWhatIsFull() {
        PromiseHours x = Scenes.full();
        tells("all WAIT", x, 1, 0, 12, 0, 12, 0, 0, 15, 0);
        x.pass(10);
        tells("all DONE by LISTS", x, 11, 0, 12, 12, 0, 0, 60, 15, 0);
        PromiseHours y = Scenes.full();
        for (int r = 0; r < Told.READERS; r++) {
            y.there(r, 1);
        }
        tells("six DONE by LETTERS", y, 1, 0, 12, 6, 6, 30, 0, 15, 0);
    }

    /** "which IMAGES are kept, a set (8)" */
    private static void imagesAreEverySet() {
        for (int set = 0; set < 4; set++) {
            PromiseHours x = new PromiseHours();
            for (int k = 0; k < 2; k++) {
                if ((set & 1 << k) != 0) {
                    x.image(k);
                    x.image(k);
                }
            }
            x.image(2);
            x.image(-1);
            due.is("IMAGES", x.count(8), set);
        }
    }

    private static void nineIsNoNumber() {
        PromiseHours x = Scenes.full();
        x.image(0);
        x.image(1);
        due.is("count(8)", x.count(8), 3);
        due.is("count(9)", x.count(9), PromiseHours.OUTSIDE);
        due.is("count(10)", x.count(10), 40);
    }
}
