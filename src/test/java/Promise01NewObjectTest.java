/** Promise 1 and the Terms' first paragraph: what holds at first. */
final class Promise01NewObjectTest {
    private static final Due due = new Due("promise 1");

    public static void main(String[] args) {
        PromiseHours x = new PromiseHours();
        countsAreNone(x);
        rulesAreTheFirstOnes(x);
        thingsAreUntouched(x);
        readersAreThereWithNothing(x);
        due.is("cause(0)", x.cause(0), PromiseHours.NONE);
        due.is("waited(0)", x.waited(0), PromiseHours.NONE);
        due.is("waiting(0)", x.waiting(0), PromiseHours.NONE);
        due.is("restore(0)", x.restore(0), PromiseHours.STATE);
        due.is("restore(1)", x.restore(1), PromiseHours.STATE);
        objectsShareNothing();
        noImageIsKept();
        theFirstTickIsOneMore();
        due.end();
    }

    private static void countsAreNone(PromiseHours x) {
        for (int what = 0; what <= 8; what++) {
            due.is("count(" + what + ")", x.count(what), 0);
        }
    }

    private static void rulesAreTheFirstOnes(PromiseHours x) {
        due.is("LONG", x.count(10), 40);
        due.is("SHORT", x.count(11), 10);
        due.is("DOUBT", x.count(12), 1);
        due.is("KEEP", x.count(13), 100);
    }

    private static void thingsAreUntouched(PromiseHours x) {
        int[] wants = {0, 0, PromiseHours.NONE, PromiseHours.NONE, 0, 0, 0};
        for (int t = 0; t < Told.THINGS; t++) {
            for (int what = 0; what < wants.length; what++) {
                due.is("thing(" + t + ", " + what + ")", x.thing(t, what), wants[what]);
            }
        }
    }

    private static void readersAreThereWithNothing(PromiseHours x) {
        int[] wants = {1, 100, PromiseHours.NONE, 0, 0, 0, 0, 0};
        for (int r = 0; r < Told.READERS; r++) {
            for (int what = 0; what < wants.length; what++) {
                due.is("reader(" + r + ", " + what + ")", x.reader(r, what), wants[what]);
            }
            for (int v = 0; v < Told.VOLUMES; v++) {
                due.is("TERM of a VOLUME", x.volume(r, v, 0), 0);
                due.is("it is OVER", x.volume(r, v, 1), 1);
                due.is("LIST", x.volume(r, v, 2), 0);
            }
            for (int t = 0; t < Told.THINGS; t++) {
                due.is("COPY", x.copy(r, t, 0), PromiseHours.NONE);
                due.is("TERM", x.copy(r, t, 1), 0);
                due.is("PROMISE", x.copy(r, t, 2), 0);
                due.is("USE", x.copy(r, t, 3), 0);
            }
        }
    }

    private static void objectsShareNothing() {
        int[] fresh = Told.all(new PromiseHours());
        PromiseHours used = Scenes.busy();
        used.image(0);
        due.same("calls on another object", fresh, new PromiseHours());
    }

    private static void noImageIsKept() {
        PromiseHours x = new PromiseHours();
        int[] before = Told.all(x);
        for (int k = -1; k <= 2; k++) {
            boolean named = k == 0 || k == 1;
            due.is("restore(" + k + ")", x.restore(k), named ? PromiseHours.STATE : PromiseHours.OUTSIDE);
        }
        due.same("restore of nothing", before, x);
    }

    private static void theFirstTickIsOneMore() {
        PromiseHours x = new PromiseHours();
        due.is("TICK", x.count(0), 0);
        x.pass(1);
        due.is("TICK", x.count(0), 1);
    }
}
