/** Promise 7: pass. */
final class Promise07PassTest {
    private static final Due due = new Due("promise 7");

    public static void main(String[] args) {
        ticksPass();
        settlesAtEachTick();
        manyTicksAreAsOneByOne();
        refusesWhatIsOutside();
        due.end();
    }

    private static void ticksPass() {
        PromiseHours x = new PromiseHours();
        due.is("pass(1)", x.pass(1), 0);
        due.is("TICK", x.count(0), 1);
        due.is("pass(100)", x.pass(100), 0);
        due.is("TICK", x.count(0), 101);
    }

    private static void settlesAtEachTick() {
        PromiseHours x = new PromiseHours();
        x.read(0, 0);
        x.read(1, 5);
        x.pass(2);
        x.read(2, 5);
        x.write(5, 0);
        x.write(0, 0);
        due.is("pass(7)", x.pass(7), 0);
        due.is("pass(1)", x.pass(1), 1);
        due.is("waiting(0)", x.waiting(0), 5);
        due.is("LIST of 0", x.volume(0, 0, 2), 1);
        due.is("LIST of 1", x.volume(1, 1, 2), 1 << 5);
        due.is("HOLDERS of 5", x.thing(5, 4), 1 << 2);
        due.is("pass(100)", x.pass(100), 1);
        due.is("LIST of 2", x.volume(2, 1, 2), 1 << 5);
        due.is("DONE", x.count(3), 2);
    }

    private static void manyTicksAreAsOneByOne() {
        PromiseHours whole = Scenes.busy();
        PromiseHours single = Scenes.busy();
        int done = 0;
        for (int i = 0; i < 60; i++) {
            done += single.pass(1);
        }
        due.is("pass(60)", whole.pass(60), done);
        due.is("pass(60)", done, 2);
        due.same("pass(60)", Told.all(single), whole);
    }

    private static void refusesWhatIsOutside() {
        PromiseHours x = Scenes.busy();
        int[] before = Told.all(x);
        for (int ticks : new int[] {0, -1, 101, Integer.MIN_VALUE, Integer.MAX_VALUE}) {
            due.is("pass(" + ticks + ")", x.pass(ticks), PromiseHours.OUTSIDE);
            due.same("pass(" + ticks + ")", before, x);
        }
    }
}
