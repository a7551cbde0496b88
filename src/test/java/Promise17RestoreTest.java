/** Promise 17: restore. */
final class Promise17RestoreTest {
    private static final Due due = new Due("promise 17");

    public static void main(String[] args) {
        allIsAsItWas();
        allGoesOnAsItWould();
        theImageStays();
        imagesAreNotOfTheImage();
        aNewStateReplacesABusyOne();
        refusesInOrder();
        aFullStateIsRestoredIntoANewOne();
        restoringTwiceIsAsOnce();
        anImageOfARestoredState();
        due.end();
    }

    private static void change(PromiseHours x) {
        for (int what = 0; what < 4; what++) {
            x.rule(what, 6);
        }
        for (int r = 0; r < Told.READERS; r++) {
            x.skew(r, r);
            x.there(r, r % 2);
            for (int t = 0; t < Told.THINGS; t++) {
                x.read(r, t);
            }
        }
        for (int t = 0; t < Told.THINGS; t++) {
            x.write(t, t % 2);
        }
        x.pass(9);
        readStaleAndLose(x);
        x.there(2, 1);
        x.read(2, 3);
        x.there(2, 0);
        x.write(3, 1);
    }

    private static void readStaleAndLose(PromiseHours x) {
        x.rule(0, 9);
        x.there(4, 1);
        x.skew(4, -20);
        x.read(4, 10);
        x.pass(6);
        x.write(10, 0);
        due.is("STALE", x.read(4, 10), 1);
        int lost = x.reader(4, 7);
        x.skew(4, 0);
        x.read(4, 10);
        due.is("lost", x.reader(4, 7), lost + 1);
    }

    private static void allIsAsItWas() {
        PromiseHours x = Scenes.busy();
        x.image(0);
        x.image(1);
        int[] before = Told.all(x);
        change(x);
        due.is("restore(0)", x.restore(0), 1);
        due.same("restore(0)", before, x);
        change(x);
        due.is("restore(1)", x.restore(1), 1);
        due.same("restore(1)", before, x);
    }

    private static void allGoesOnAsItWould() {
        PromiseHours straight = Scenes.busy();
        straight.image(0);
        change(straight);
        PromiseHours x = Scenes.busy();
        x.image(0);
        x.pass(50);
        x.restore(0);
        change(x);
        due.same("the same calls after restore(0)", Told.all(straight), x);
    }

    private static void theImageStays() {
        PromiseHours x = Scenes.busy();
        x.image(1);
        int[] before = Told.all(x);
        for (int i = 0; i < 3; i++) {
            change(x);
            due.is("restore(1)", x.restore(1), 1);
            due.same("restore(1)", before, x);
        }
    }

    private static void imagesAreNotOfTheImage() {
        PromiseHours x = new PromiseHours();
        x.image(0);
        x.pass(3);
        x.image(1);
        x.restore(0);
        due.is("IMAGES", x.count(8), 3);
        due.is("TICK", x.count(0), 0);
        due.is("restore(1)", x.restore(1), 1);
        due.is("TICK", x.count(0), 3);
    }

    private static void aNewStateReplacesABusyOne() {
        PromiseHours x = new PromiseHours();
        x.image(0);
        int[] before = Told.all(x);
        change(x);
        x.restore(0);
        due.same("restore(0) of a new state", before, x);
    }

    private static void refusesInOrder() {
        PromiseHours x = Scenes.busy();
        int[] before = Told.all(x);
        int[][] calls = {
            {-1, PromiseHours.OUTSIDE}, {2, PromiseHours.OUTSIDE}, {32, PromiseHours.OUTSIDE},
            {Integer.MIN_VALUE, PromiseHours.OUTSIDE}, {Integer.MAX_VALUE, PromiseHours.OUTSIDE},
            {0, PromiseHours.STATE}, {1, PromiseHours.STATE}};
        for (int[] c : calls) {
            due.is("restore(" + c[0] + ")", x.restore(c[0]), c[1]);
            due.same("restore(" + c[0] + ")", before, x);
        }
        x.image(1);
        due.is("restore(0) with only 1 kept", x.restore(0), PromiseHours.STATE);
    }

    private static void aFullStateIsRestoredIntoANewOne() {
        PromiseHours x = new PromiseHours();
        x.image(0);
        for (int r = 0; r < Told.READERS; r++) {
            for (int t = 0; t < Told.THINGS; t++) {
                x.read(r, t);
            }
        }
        for (int t = 0; t < Told.THINGS; t++) {
            x.write(t, 0);
        }
        x.image(1);
        int[] full = Told.all(x);
        x.restore(0);
        due.is("WAIT", x.count(4), 0);
        due.is("waiting(0)", x.waiting(0), PromiseHours.NONE);
        due.is("waited(0)", x.waited(0), PromiseHours.NONE);
        due.is("cause(0)", x.cause(0), PromiseHours.NONE);
        x.restore(1);
        due.same("restore(1)", full, x);
        due.is("pass(10)", x.pass(10), 12);
    }

    /** "the IMAGE stays" */
    private static void restoringTwiceIsAsOnce() {
        PromiseHours x = Scenes.full();
        x.image(1);
        int[] before = Told.all(x);
        due.is("restore(1)", x.restore(1), 1);
        due.is("restore(1)", x.restore(1), 1);
        due.same("restore(1) twice", before, x);
        x.pass(50);
        due.is("restore(0)", x.restore(0), PromiseHours.STATE);
        due.is("TICK", x.count(0), 51);
        due.is("restore(1)", x.restore(1), 1);
        due.same("restore(1)", before, x);
    }

    private static void anImageOfARestoredState() {
        PromiseHours x = Scenes.busy();
        x.image(0);
        x.image(1);
        int[] before = Told.all(x);
        x.pass(20);
        x.restore(0);
        x.image(1);
        x.pass(20);
        x.image(0);
        x.restore(1);
        due.same("restore(1) of what 0 kept", before, x);
    }
}
