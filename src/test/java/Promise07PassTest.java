/** Promise 7: pass. */
final class Promise07PassTest {
    private static final Due due = new Due("promise 7");

    public static void main(String[] args) {
        ticksPass();
        settlesAtEachTick();
        manyTicksAreAsOneByOne();
        refusesWhatIsOutside();
        takesEveryNumberOfItsRange();
        countsNoneAndAll();
        theGreatestTickOfAnyUse();
        due.end();
    }

    private static void ticksPass() {
        PromiseHours x = new PromiseHours();
        due.is("pass(1)", x.pass(1), 0);
        due.is("TICK", x.count(0), 1);
        due.is("pass(100)", x.pass(100), 0);
        due.is("TICK", x.count(0), 101);
    }

    private static void settlesAtEachTick() {
        PromiseHours x = new PromiseHours();
        x.read(0, 0);
        x.read(1, 5);
        x.pass(2);
        x.read(2, 5);
        x.write(5, 0);
        x.write(0, 0);
        due.is("pass(7)", x.pass(7), 0);
        due.is("pass(1)", x.pass(1), 1);
        due.is("waiting(0)", x.waiting(0), 5);
        due.is("LIST of 0", x.volume(0, 0, 2), 1);
        due.is("LIST of 1", x.volume(1, 1, 2), 1 << 5);
        due.is("HOLDERS of 5", x.thing(5, 4), 1 << 2);
        due.is("pass(100)", x.pass(100), 1);
        due.is("LIST of 2", x.volume(2, 1, 2), 1 << 5);
        due.is("DONE", x.count(3), 2);
    }

    private static void manyTicksAreAsOneByOne() {
        PromiseHours whole = Scenes.busy();
        PromiseHours single = Scenes.busy();
        int done = 0;
        for (int i = 0; i < 60; i++) {
            done += single.pass(1);
        }
        due.is("pass(60)", whole.pass(60), done);
        due.is("pass(60)", done, 2);
        due.same("pass(60)", Told.all(single), whole);
    }

    private static void refusesWhatIsOutside() {
        PromiseHours x = Scenes.busy();
        int[] before = Told.all(x);
        for (int ticks : new int[] {0, -1, 101, Integer.MIN_VALUE, Integer.MAX_VALUE}) {
            due.is("pass(" + ticks + ")", x.pass(ticks), PromiseHours.OUTSIDE);
            due.same("pass(" + ticks + ")", before, x);
        }
    }

    /** "So many TICKS (1 to 100) pass" */
    private static void takesEveryNumberOfItsRange() {
        PromiseHours x = new PromiseHours();
        int tick = 0;
        for (int n = -2; n <= 102; n++) {
            boolean taken = n >= 1 && n <= 100;
            due.is("pass(" + n + ")", x.pass(n), taken ? 0 : PromiseHours.OUTSIDE);
            tick += taken ? n : 0;
            due.is("TICK", x.count(0), tick);
        }
    }

    /** "how many WRITES were DONE" */
    private static void countsNoneAndAll() {
        PromiseHours x = Scenes.full();
        due.is("pass(9)", x.pass(9), 0);
        due.is("pass(1)", x.pass(1), 12);
        due.is("pass(100)", x.pass(100), 0);
        PromiseHours y = Scenes.full();
        due.is("pass(100)", y.pass(100), 12);
        due.is("on LISTS", y.count(6), 60);
    }

    /** "An object is used for at most 512 calls": the last of them may be at TICK 51,000 and more. */
    private static void theGreatestTickOfAnyUse() {
        PromiseHours x = new PromiseHours();
        for (int i = 0; i < 500; i++) {
            due.is("pass(100)", x.pass(100), 0);
        }
        due.is("read(4, 11)", x.read(4, 11), 2);
        due.is("TERM", x.copy(4, 11, 1), 50040);
        due.is("write(11, 0)", x.write(11, 0), 10);
        due.is("DUE", x.thing(11, 3), 50010);
        due.is("pass(100)", x.pass(100), 1);
        due.is("LIST", x.volume(4, 2, 2), 1 << 11);
        due.is("read(4, 11)", x.read(4, 11), 2);
        due.is("VERSION", x.copy(4, 11, 0), 1);
        due.is("TICK", x.count(0), 50100);
    }
}
