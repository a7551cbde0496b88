/** Promise 8: cause. */
final class Promise08CauseTest {
    private static final Due due = new Due("promise 8");

    public static void main(String[] args) {
        noneBeforeAnyRead();
        tellsEachCause();
        keepsTheLastReadThatUsedNoCopy();
        tellsWhatHeldBeforeTheRead();
        aLongerRowLeavesNothingBehind();
        whatIsRefusedOrUsedLeavesThem();
        due.end();
    }

    private static void causes(String when, PromiseHours x, int... wants) {
        for (int i = 0; i < wants.length; i++) {
            due.is(when + ": cause(" + i + ")", x.cause(i), wants[i]);
        }
        due.is(when + ": cause(" + wants.length + ")", x.cause(wants.length), PromiseHours.NONE);
        due.is(when + ": cause(-1)", x.cause(-1), PromiseHours.NONE);
        due.is(when + ": cause(4)", x.cause(4), PromiseHours.NONE);
        due.is(when + ": least", x.cause(Integer.MIN_VALUE), PromiseHours.NONE);
        due.is(when + ": greatest", x.cause(Integer.MAX_VALUE), PromiseHours.NONE);
    }

    private static void noneBeforeAnyRead() {
        PromiseHours x = new PromiseHours();
        causes("new", x);
        x.read(9, 0);
        x.write(0, 0);
        causes("after a refused READ", x);
    }

    private static void tellsEachCause() {
        PromiseHours x = new PromiseHours();
        x.there(0, 0);
        x.read(0, 0);
        causes("away, new", x, 1, 2, 3, 4);
        x.read(1, 0);
        causes("THERE, new", x, 2, 3, 4);
        x.read(1, 1);
        causes("another THING of the VOLUME", x, 3, 4);
        x.pass(9);
        x.read(1, 0);
        causes("the VOLUME is OVER", x, 2);
        x.skew(2, -20);
        x.read(2, 0);
        causes("slow, new", x, 4);
        x.there(3, 0);
        x.skew(3, -20);
        x.read(3, 0);
        causes("slow, away, new", x, 1, 4);
        x.skew(1, 20);
        x.rule(1, 100);
        x.read(1, 2);
        causes("fast", x, 2, 3, 4);
        x.pass(15);
        x.read(1, 1);
        causes("the THING is OVER", x, 3);
    }

    private static void keepsTheLastReadThatUsedNoCopy() {
        PromiseHours x = new PromiseHours();
        x.read(0, 0);
        x.read(0, 1);
        x.read(0, 0);
        x.read(0, 12);
        x.write(0, 1);
        causes("after a READ by a COPY", x, 3, 4);
    }

    private static void tellsWhatHeldBeforeTheRead() {
        PromiseHours x = new PromiseHours();
        x.read(0, 0);
        x.write(0, 0);
        x.pass(10);
        x.read(0, 0);
        causes("a COPY that goes by the LIST", x, 2);
        due.is("lost", x.reader(0, 7), 1);
    }

    private static void aLongerRowLeavesNothingBehind() {
        PromiseHours x = new PromiseHours();
        x.there(0, 0);
        x.read(0, 0);
        causes("four", x, 1, 2, 3, 4);
        x.skew(1, -20);
        x.read(1, 0);
        causes("one after four", x, 4);
        x.read(0, 11);
        causes("four after one", x, 1, 2, 3, 4);
    }

    private static void whatIsRefusedOrUsedLeavesThem() {
        PromiseHours x = new PromiseHours();
        x.read(0, 0);
        causes("asked", x, 2, 3, 4);
        x.read(5, 0);
        x.read(0, -1);
        x.read(0, 0);
        x.there(0, 0);
        x.pass(5);
        causes("after refused READS and one by a COPY", x, 2, 3, 4);
        x.skew(0, -9);
        x.pass(6);
        x.write(0, 0);
        x.read(0, 0);
        due.is("STALE", x.count(1), 1);
        causes("after a STALE one", x, 2, 3, 4);
    }
}
