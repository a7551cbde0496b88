/** Promise 12: volume. */
final class Promise12VolumeTest {
    private static final Due due = new Due("promise 12");

    public static void main(String[] args) {
        thingsBelongToTheirVolumes();
        tellsWhetherItIsOver();
        tellsTheList();
        refusesWrongInputs();
        listsAreEmptyAndFull();
        aListHasEachThingAsItsBit();
        due.end();
    }

    private static void thingsBelongToTheirVolumes() {
        int[] volumes = {0, 0, 0, 0, 1, 1, 1, 1, 2, 2, 2, 2};
        for (int t = 0; t < volumes.length; t++) {
            PromiseHours x = new PromiseHours();
            x.read(1, t);
            for (int v = 0; v < Told.VOLUMES; v++) {
                due.is("TERM of " + v + " by " + t, x.volume(1, v, 0), volumes[t] == v ? 10 : 0);
            }
        }
    }

    private static void tellsWhetherItIsOver() {
        PromiseHours x = new PromiseHours();
        x.read(3, 9);
        due.is("OVER at 0", x.volume(3, 2, 1), 0);
        x.pass(8);
        due.is("OVER at 8", x.volume(3, 2, 1), 0);
        x.pass(1);
        due.is("OVER at 9", x.volume(3, 2, 1), 1);
        x.skew(3, -1);
        due.is("OVER at 9, slow by 1", x.volume(3, 2, 1), 0);
        x.pass(1);
        due.is("OVER at 10, slow by 1", x.volume(3, 2, 1), 1);
        x.rule(2, 0);
        due.is("OVER at 10, slow by 1, DOUBT 0", x.volume(3, 2, 1), 0);
    }

    private static void tellsTheList() {
        PromiseHours x = new PromiseHours();
        for (int t = 0; t < Told.THINGS; t++) {
            x.read(2, t);
            x.read(3, t);
        }
        x.pass(10);
        for (int t = 0; t < Told.THINGS; t++) {
            x.write(t, 1);
        }
        due.is("LIST of 0", x.volume(2, 0, 2), 0x00f);
        due.is("LIST of 1", x.volume(2, 1, 2), 0x0f0);
        due.is("LIST of 2", x.volume(3, 2, 2), 0xf00);
        due.is("LIST of another", x.volume(1, 2, 2), 0);
        due.is("on LISTS", x.count(6), 24);
    }

    private static void refusesWrongInputs() {
        PromiseHours x = Scenes.busy();
        int[] before = Told.all(x);
        int[][] calls = {
            {-1, 0, 0, PromiseHours.UNKNOWN}, {5, 0, 0, PromiseHours.UNKNOWN},
            {0, -1, 0, PromiseHours.UNKNOWN}, {0, 3, 0, PromiseHours.UNKNOWN},
            {5, 0, 3, PromiseHours.UNKNOWN}, {0, 3, -1, PromiseHours.UNKNOWN},
            {Integer.MAX_VALUE, 0, 0, PromiseHours.UNKNOWN}, {0, Integer.MIN_VALUE, 0, PromiseHours.UNKNOWN},
            {0, 0, -1, PromiseHours.OUTSIDE}, {4, 2, 3, PromiseHours.OUTSIDE},
            {0, 0, Integer.MIN_VALUE, PromiseHours.OUTSIDE}, {0, 0, Integer.MAX_VALUE, PromiseHours.OUTSIDE}};
        for (int[] c : calls) {
            due.is("volume(" + c[0] + ", " + c[1] + ", " + c[2] + ")", x.volume(c[0], c[1], c[2]), c[3]);
        }
        due.same("refused calls", before, x);
    }

    private static void listsAreEmptyAndFull() {
        PromiseHours x = Scenes.full();
        for (int r = 0; r < Told.READERS; r++) {
            for (int v = 0; v < Told.VOLUMES; v++) {
                due.is("LIST, empty", x.volume(r, v, 2), 0);
                due.is("TERM", x.volume(r, v, 0), 11);
            }
        }
        x.pass(10);
        for (int r = 0; r < Told.READERS; r++) {
            for (int v = 0; v < Told.VOLUMES; v++) {
                due.is("LIST, full", x.volume(r, v, 2), 15 << 4 * v);
                due.is("OVER", x.volume(r, v, 1), 1);
            }
        }
        x.there(3, 1);
        x.read(3, 5);
        due.is("LIST, after it is RENEWED", x.volume(3, 1, 2), 0);
        due.is("LIST of another VOLUME", x.volume(3, 2, 2), 0xf00);
        due.is("LIST of another READER", x.volume(2, 1, 2), 0x0f0);
    }

    private static void aListHasEachThingAsItsBit() {
        for (int t = 0; t < Told.THINGS; t++) {
            PromiseHours x = new PromiseHours();
            x.read(0, t);
            x.pass(10);
            x.write(t, 0);
            for (int v = 0; v < Told.VOLUMES; v++) {
                due.is("LIST of " + v + " with " + t, x.volume(0, v, 2), v == t / 4 ? 1 << t : 0);
            }
        }
    }
}
