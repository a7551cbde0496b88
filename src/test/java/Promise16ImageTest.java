/** Promise 16: image. */
final class Promise16ImageTest {
    private static final Due due = new Due("promise 16");

    public static void main(String[] args) {
        keepsAndChangesNothingElse();
        takesThePlaceOfWhatWasKept();
        refusesWhatIsOutside();
        bothImagesAreKeptApart();
        anImageOfANewObject();
        due.end();
    }

    private static void keepsAndChangesNothingElse() {
        PromiseHours x = Scenes.busy();
        x.image(0);
        int[] before = Told.all(x);
        due.is("image(0)", x.image(0), 1);
        due.same("image(0)", before, x);
        due.is("IMAGES", x.count(8), 1);
        due.is("image(1)", x.image(1), 1);
        due.is("IMAGES", x.count(8), 3);
    }

    private static void takesThePlaceOfWhatWasKept() {
        PromiseHours x = new PromiseHours();
        x.image(0);
        x.pass(5);
        x.image(1);
        x.pass(5);
        x.image(0);
        x.pass(5);
        x.restore(1);
        due.is("TICK in 1", x.count(0), 5);
        x.restore(0);
        due.is("TICK in 0", x.count(0), 10);
    }

    private static void refusesWhatIsOutside() {
        PromiseHours x = Scenes.busy();
        x.image(1);
        x.pass(3);
        int[] before = Told.all(x);
        for (int k : new int[] {-1, 2, 32, 33, Integer.MIN_VALUE, Integer.MAX_VALUE}) {
            due.is("image(" + k + ")", x.image(k), PromiseHours.OUTSIDE);
            due.same("image(" + k + ")", before, x);
        }
        x.restore(1);
        due.is("TICK in 1", x.count(0), 7);
    }

    private static void bothImagesAreKeptApart() {
        PromiseHours x = Scenes.full();
        due.is("image(0)", x.image(0), 1);
        due.is("image(1)", x.image(1), 1);
        int[] full = Told.all(x);
        x.pass(10);
        due.is("image(1)", x.image(1), 1);
        int[] past = Told.all(x);
        x.restore(0);
        due.same("restore(0)", full, x);
        x.restore(1);
        due.same("restore(1)", past, x);
    }

    private static void anImageOfANewObject() {
        PromiseHours x = new PromiseHours();
        due.is("image(1)", x.image(1), 1);
        due.is("IMAGES", x.count(8), 2);
        due.is("restore(0)", x.restore(0), PromiseHours.STATE);
        due.is("restore(1)", x.restore(1), 1);
        due.is("TICK", x.count(0), 0);
    }
}
