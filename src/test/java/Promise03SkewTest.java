/** Promise 3: skew. */
final class Promise03SkewTest {
    private static final Due due = new Due("promise 3");

    public static void main(String[] args) {
        countsThoseBeyondDoubt();
        movesWhatIsOver();
        refusesWrongInputs();
        takesEveryNumberOfItsRange();
        countsNoneAndAll();
        movesNothingButOver();
        due.end();
    }

    private static void countsThoseBeyondDoubt() {
        PromiseHours x = new PromiseHours();
        due.is("skew(0, 1): as great as DOUBT", x.skew(0, 1), 0);
        due.is("skew(0, -1)", x.skew(0, -1), 0);
        due.is("skew(0, 2)", x.skew(0, 2), 1);
        due.is("skew(1, -2)", x.skew(1, -2), 2);
        due.is("skew(4, 20)", x.skew(4, 20), 3);
        due.is("skew(3, -20)", x.skew(3, -20), 4);
        due.is("the same again", x.skew(3, -20), 4);
        due.is("reader(3, 1)", x.reader(3, 1), 80);
        due.is("reader(4, 1)", x.reader(4, 1), 120);
        x.rule(2, 9);
        due.is("skew(0, 9) with DOUBT 9", x.skew(0, 9), 2);
        due.is("skew(0, -10)", x.skew(0, -10), 3);
        x.rule(2, 0);
        due.is("skew(0, 0) with DOUBT 0", x.skew(0, 0), 3);
    }

    private static void movesWhatIsOver() {
        PromiseHours x = new PromiseHours();
        x.read(2, 6);
        x.skew(2, 8);
        due.is("USE at 9 of 10", x.copy(2, 6, 3), 1);
        x.skew(2, 9);
        due.is("USE at 10 of 10", x.copy(2, 6, 3), 0);
        due.is("OVER", x.volume(2, 1, 1), 1);
        x.skew(2, -2);
        due.is("a TERM of 0 is not OVER to a slow clock", x.volume(2, 0, 1), 0);
    }

    private static void refusesWrongInputs() {
        PromiseHours x = Scenes.busy();
        int[] before = Told.all(x);
        int[][] calls = {
            {-1, 3, PromiseHours.UNKNOWN}, {5, 3, PromiseHours.UNKNOWN},
            {Integer.MIN_VALUE, 99, PromiseHours.UNKNOWN}, {5, 21, PromiseHours.UNKNOWN},
            {0, 21, PromiseHours.OUTSIDE}, {4, -21, PromiseHours.OUTSIDE},
            {0, Integer.MIN_VALUE, PromiseHours.OUTSIDE}, {0, Integer.MAX_VALUE, PromiseHours.OUTSIDE}};
        for (int[] c : calls) {
            String call = "skew(" + c[0] + ", " + c[1] + ")";
            due.is(call, x.skew(c[0], c[1]), c[2]);
            due.same(call, before, x);
        }
    }

    /** "a SKEW, -20 to 20 (0 at first)"; "how many READERS have one greater than DOUBT, or less than DOUBT below 0" */
    private static void takesEveryNumberOfItsRange() {
        for (int doubt = 0; doubt <= 9; doubt++) {
            for (int reader = 0; reader < Told.READERS; reader++) {
                PromiseHours x = new PromiseHours();
                x.rule(2, doubt);
                int has = 0;
                for (int n = -22; n <= 22; n++) {
                    boolean taken = n >= -20 && n <= 20;
                    int beyond = n > doubt || n < -doubt ? 1 : 0;
                    due.is("DOUBT " + doubt + ": skew(" + reader + ", " + n + ")",
                            x.skew(reader, n), taken ? beyond : PromiseHours.OUTSIDE);
                    has = taken ? n : has;
                    due.is("DOUBT " + doubt + ": reader(" + reader + ", 1)", x.reader(reader, 1), 100 + has);
                }
            }
        }
    }

    private static void countsNoneAndAll() {
        PromiseHours x = new PromiseHours();
        for (int r = 0; r < Told.READERS; r++) {
            due.is("as great as DOUBT", x.skew(r, r % 2 == 0 ? 1 : -1), 0);
        }
        for (int r = 0; r < Told.READERS; r++) {
            due.is("beyond DOUBT", x.skew(r, r % 2 == 0 ? 2 : -2), r + 1);
        }
        x.rule(2, 2);
        due.is("the same again, with a greater DOUBT", x.skew(4, 2), 0);
        x.rule(2, 0);
        due.is("the same again, with DOUBT 0", x.skew(4, 2), 5);
    }

    private static void movesNothingButOver() {
        PromiseHours x = Scenes.busy();
        int[] before = Told.all(x);
        x.skew(1, 20);
        due.is("PROMISE", x.copy(1, 1, 2), 44);
        due.is("it WAITS", x.thing(1, 1), 1);
        x.skew(1, -20);
        x.skew(1, 0);
        due.same("SKEW there and back", before, x);
    }
}
