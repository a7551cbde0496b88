/** Promise 5 and the Terms' second paragraph: read. */
final class Promise05ReadTest {
    private static final Due due = new Due("promise 5");

    public static void main(String[] args) {
        asksThenUses();
        anAwayReaderUsesAsLongAsItCan();
        theLesserOfBothTermsEndsTheUse();
        readsStaleByASlowClock();
        asksWhileAWriteWaits();
        renewsAPassedTermThatASlowClockTrusts();
        doesNotRenewATermThatLasts();
        losesCopiesByTheList();
        losesAllOfTheVolumeBeyondKeep();
        aListOfAnotherVolumeStays();
        refusesTheUnknown();
        everyReaderReadsEveryThing();
        aStaleReadIsOfAnotherVersionAlone();
        asksAtTheTickAtWhichTheWriteIsDone();
        due.end();
    }

    private static void asksThenUses() {
        PromiseHours x = new PromiseHours();
        due.is("read(3, 7)", x.read(3, 7), 2);
        due.is("COPY", x.copy(3, 7, 0), 0);
        due.is("TERM", x.copy(3, 7, 1), 40);
        due.is("PROMISE", x.copy(3, 7, 2), 40);
        due.is("TERM of the VOLUME", x.volume(3, 1, 0), 10);
        due.is("others' TERM", x.volume(3, 0, 0) + x.volume(3, 2, 0) + x.volume(2, 1, 0), 0);
        due.is("read(3, 7)", x.read(3, 7), 0);
        due.is("used", x.reader(3, 3), 1);
        due.is("asked", x.reader(3, 4), 1);
    }

    private static void anAwayReaderUsesAsLongAsItCan() {
        PromiseHours x = new PromiseHours();
        x.read(0, 0);
        x.there(0, 0);
        x.pass(8);
        due.is("read(0, 0) at 8", x.read(0, 0), 0);
        x.pass(1);
        due.is("read(0, 0) at 9", x.read(0, 0), 4);
        due.is("read nothing", x.reader(0, 5), 1);
        due.is("last VERSION stays", x.reader(0, 2), 0);
        due.is("nothing is RENEWED", x.count(7), 1);
        due.is("COPY stays", x.copy(0, 0, 0), 0);
    }

    private static void theLesserOfBothTermsEndsTheUse() {
        PromiseHours x = new PromiseHours();
        x.rule(0, 5);
        x.rule(1, 20);
        x.read(0, 0);
        x.pass(3);
        due.is("read(0, 0) at 3", x.read(0, 0), 0);
        x.pass(1);
        due.is("read(0, 0) at 4", x.read(0, 0), 2);
        due.is("cause(0)", x.cause(0), 3);
        due.is("cause(1)", x.cause(1), PromiseHours.NONE);
        due.is("TERM", x.copy(0, 0, 1), 9);
        due.is("TERM of the VOLUME is not RENEWED", x.volume(0, 0, 0), 20);
        due.is("RENEWED", x.count(7), 1);
    }

    private static void readsStaleByASlowClock() {
        PromiseHours x = new PromiseHours();
        x.read(2, 8);
        x.skew(2, -5);
        x.there(2, 0);
        x.write(8, 0);
        due.is("pass(10)", x.pass(10), 1);
        due.is("read(2, 8)", x.read(2, 8), 1);
        due.is("STALE", x.count(1), 1);
        due.is("used, STALE too", x.reader(2, 3), 1);
        due.is("VERSION read", x.reader(2, 2), 0);
        x.there(2, 1);
        due.is("read(2, 8), THERE", x.read(2, 8), 1);
        x.pass(4);
        due.is("read(2, 8)", x.read(2, 8), 2);
        due.is("VERSION read", x.reader(2, 2), 1);
        due.is("STALE", x.count(1), 2);
    }

    private static void asksWhileAWriteWaits() {
        PromiseHours x = new PromiseHours();
        x.read(0, 0);
        x.write(0, 0);
        due.is("read(1, 0)", x.read(1, 0), 3);
        due.is("no COPY", x.copy(1, 0, 0), PromiseHours.NONE);
        due.is("no PROMISE", x.copy(1, 0, 2), 0);
        due.is("no TERM", x.copy(1, 0, 1), 0);
        due.is("TERM of the VOLUME", x.volume(1, 0, 0), 10);
        due.is("VERSION read", x.reader(1, 2), 0);
        due.is("read(0, 0)", x.read(0, 0), 0);
        x.pass(9);
        due.is("read(0, 0) at 9", x.read(0, 0), 3);
        due.is("the COPY stays", x.copy(0, 0, 0), 0);
        due.is("its TERM stays", x.copy(0, 0, 1), 40);
        due.is("its PROMISE stays", x.copy(0, 0, 2), 40);
        due.is("TERM of the VOLUME", x.volume(0, 0, 0), 19);
        due.is("DUE is later by it", x.thing(0, 3), 19);
        due.is("read(0, 0) by the COPY again", x.read(0, 0), 0);
    }

    private static void renewsAPassedTermThatASlowClockTrusts() {
        PromiseHours x = new PromiseHours();
        x.read(0, 0);
        x.skew(0, -20);
        x.pass(10);
        due.is("the VOLUME is not OVER to it", x.volume(0, 0, 1), 0);
        due.is("read(0, 1)", x.read(0, 1), 2);
        due.is("cause(0)", x.cause(0), 4);
        due.is("cause(1)", x.cause(1), PromiseHours.NONE);
        due.is("TERM of the VOLUME", x.volume(0, 0, 0), 20);
        due.is("RENEWED", x.count(7), 2);
    }

    private static void doesNotRenewATermThatLasts() {
        PromiseHours x = new PromiseHours();
        x.read(0, 0);
        x.skew(0, -20);
        x.pass(9);
        due.is("read(0, 1)", x.read(0, 1), 2);
        due.is("TERM of the VOLUME", x.volume(0, 0, 0), 10);
        due.is("RENEWED", x.count(7), 1);
        x.skew(0, 0);
        due.is("read(0, 2), OVER to it", x.read(0, 2), 2);
        due.is("TERM of the VOLUME", x.volume(0, 0, 0), 19);
    }

    private static void losesCopiesByTheList() {
        PromiseHours x = new PromiseHours();
        x.rule(3, 5);
        x.read(4, 4);
        x.read(4, 5);
        x.read(4, 6);
        x.write(5, 0);
        x.write(6, 0);
        x.pass(15);
        due.is("LIST", x.volume(4, 1, 2), 1 << 5 | 1 << 6);
        due.is("read(4, 7): 5 beyond the TERM is not beyond KEEP", x.read(4, 7), 2);
        due.is("COPY of 4", x.copy(4, 4, 0), 0);
        due.is("TERM of 4", x.copy(4, 4, 1), 40);
        due.is("PROMISE of 4", x.copy(4, 4, 2), 40);
        due.is("COPY of 5", x.copy(4, 5, 0), PromiseHours.NONE);
        due.is("TERM of 5", x.copy(4, 5, 1), 0);
        due.is("COPY of 6", x.copy(4, 6, 0), PromiseHours.NONE);
        due.is("lost", x.reader(4, 7), 2);
        due.is("LIST", x.volume(4, 1, 2), 0);
    }

    private static void losesAllOfTheVolumeBeyondKeep() {
        PromiseHours x = new PromiseHours();
        x.rule(3, 5);
        x.read(4, 3);
        x.read(4, 4);
        x.read(4, 5);
        x.read(4, 8);
        x.write(5, 0);
        x.pass(16);
        due.is("read(4, 6): 6 beyond the TERM", x.read(4, 6), 2);
        due.is("COPY of 4", x.copy(4, 4, 0), PromiseHours.NONE);
        due.is("TERM of 4", x.copy(4, 4, 1), 0);
        due.is("PROMISE of 4", x.copy(4, 4, 2), 0);
        due.is("COPY of 5", x.copy(4, 5, 0), PromiseHours.NONE);
        due.is("COPY of 3, of another VOLUME", x.copy(4, 3, 0), 0);
        due.is("COPY of 8, of another VOLUME", x.copy(4, 8, 0), 0);
        due.is("lost", x.reader(4, 7), 2);
        x.pass(60);
        due.is("read(4, 6), long after, no LIST", x.read(4, 6), 2);
        due.is("lost nothing by no LIST", x.reader(4, 7), 2);
    }

    private static void aListOfAnotherVolumeStays() {
        PromiseHours x = new PromiseHours();
        x.read(4, 0);
        x.read(4, 4);
        x.write(0, 0);
        x.write(4, 0);
        x.pass(10);
        x.read(4, 5);
        due.is("LIST of VOLUME 0", x.volume(4, 0, 2), 1);
        due.is("LIST of VOLUME 1", x.volume(4, 1, 2), 0);
        due.is("COPY of 0", x.copy(4, 0, 0), 0);
    }

    private static void refusesTheUnknown() {
        PromiseHours x = Scenes.busy();
        int[] before = Told.all(x);
        int[][] calls = {
            {-1, 0}, {5, 0}, {0, -1}, {0, 12}, {5, 12},
            {Integer.MIN_VALUE, 0}, {Integer.MAX_VALUE, 0}, {0, Integer.MIN_VALUE}, {0, Integer.MAX_VALUE}};
        for (int[] c : calls) {
            String call = "read(" + c[0] + ", " + c[1] + ")";
            due.is(call, x.read(c[0], c[1]), PromiseHours.UNKNOWN);
            due.same(call, before, x);
        }
    }

    private static void everyReaderReadsEveryThing() {
        PromiseHours x = new PromiseHours();
        for (int r = 0; r < Told.READERS; r++) {
            for (int t = 0; t < Told.THINGS; t++) {
                due.is("read(" + r + ", " + t + ")", x.read(r, t), 2);
                due.is("read(" + r + ", " + t + ") again", x.read(r, t), 0);
            }
            due.is("asked", x.reader(r, 4), 12);
            due.is("used", x.reader(r, 3), 12);
        }
        due.is("RENEWED", x.count(7), 15);
    }

    /** "if this is not the VERSION of the THING, it is STALE" */
    private static void aStaleReadIsOfAnotherVersionAlone() {
        PromiseHours x = new PromiseHours();
        x.rule(2, 0);
        x.read(0, 0);
        x.skew(0, -1);
        x.write(0, 0);
        x.pass(9);
        due.is("the WRITE WAITS", x.read(0, 0), 0);
        x.pass(1);
        due.is("the WRITE is DONE", x.read(0, 0), 1);
        x.write(0, 0);
        due.is("two VERSIONS behind", x.read(0, 0), 1);
        due.is("STALE", x.count(1), 2);
        due.is("VERSION read", x.reader(0, 2), 0);
        x.pass(1);
        due.is("OVER", x.read(0, 0), 2);
        due.is("VERSION read", x.reader(0, 2), 2);
    }

    /** "If no WRITE of it WAITS, it has a COPY": up to DUE, and from DUE on. */
    private static void asksAtTheTickAtWhichTheWriteIsDone() {
        PromiseHours x = new PromiseHours();
        x.read(0, 0);
        x.write(0, 0);
        x.pass(9);
        due.is("read(1, 0) at 9", x.read(1, 0), 3);
        due.is("VERSION read", x.reader(1, 2), 0);
        x.pass(1);
        due.is("read(1, 0) at 10", x.read(1, 0), 2);
        due.is("VERSION read", x.reader(1, 2), 1);
        due.is("COPY", x.copy(1, 0, 0), 1);
    }
}
