/** Terms, paragraph 3: how a WRITE is SETTLED, when it is DONE, in which order, and DUE. */
final class Terms3WritesTest {
    private static final Due due = new Due("terms 3");
    private static final int ALL_READERS = 31;

    public static void main(String[] args) {
        aTermNoGreaterThanTickComesOnTheList();
        aTermGreaterThanTickIsWaitedForOrBroken();
        theListComesBeforeTheLetter();
        whoHoldsNoMoreIsLeftAlone();
        aClockDoesNotMoveTheHouse();
        noHolderMeansDone();
        fiveHoldersGoEachInItsWay();
        oneHolderLeftMeansWaiting();
        settlesAtEveryTickThatPasses();
        settlesInTheOrderInWhichTheyCame();
        comingBackSettlesAll();
        goingAwaySettlesNothing();
        aReadSettlesNothing();
        dueIsTheTickAtWhichItIsDone();
        dueIsTheGreatestOfTheLesserOnes();
        dueMayComeNearer();
        aLetterLeavesOtherThings();
        due.end();
    }

    private static PromiseHours heldByOne(int longTerm, int shortTerm, int tick) {
        PromiseHours x = new PromiseHours();
        x.rule(0, longTerm);
        x.rule(1, shortTerm);
        x.read(2, 8);
        Scenes.passTo(x, tick);
        return x;
    }

    /** "if the TERM of the VOLUME that it has is no greater than TICK: the THING is one of its LIST, and the PROMISE is 0" */
    private static void aTermNoGreaterThanTickComesOnTheList() {
        for (int shortTerm : new int[] {1, 10, 100}) {
            for (int beyond = 0; beyond <= 1; beyond++) {
                for (int there = 0; there <= 1; there++) {
                    for (int way = 0; way <= 1; way++) {
                        PromiseHours x = heldByOne(200, shortTerm, shortTerm + beyond);
                        x.there(2, there);
                        String when = "SHORT " + shortTerm + ", way " + way + ", THERE " + there;
                        due.is(when + ": write", x.write(8, way), 0);
                        due.is(when + ": LIST", x.volume(2, 2, 2), 1 << 8);
                        due.is(when + ": PROMISE", x.copy(2, 8, 2), 0);
                        due.is(when + ": TERM", x.copy(2, 8, 1), 200);
                        due.is(when + ": COPY", x.copy(2, 8, 0), 0);
                        due.is(when + ": VERSION", x.thing(8, 0), 1);
                        due.is(when + ": LETTERS", x.count(5), 0);
                        due.is(when + ": on a LIST", x.count(6), 1);
                    }
                }
            }
        }
    }

    /** "else, if the way is 1, and it is THERE: a LETTER goes to it" */
    private static void aTermGreaterThanTickIsWaitedForOrBroken() {
        for (int shortTerm : new int[] {1, 10, 100}) {
            for (int there = 0; there <= 1; there++) {
                for (int way = 0; way <= 1; way++) {
                    PromiseHours x = heldByOne(200, shortTerm, shortTerm - 1);
                    x.there(2, there);
                    boolean broken = way == 1 && there == 1;
                    String when = "SHORT " + shortTerm + ", way " + way + ", THERE " + there;
                    due.is(when + ": write", x.write(8, way), broken ? 0 : 1);
                    due.is(when + ": LETTERS", x.reader(2, 6), broken ? 1 : 0);
                    due.is(when + ": COPY", x.copy(2, 8, 0), broken ? PromiseHours.NONE : 0);
                    due.is(when + ": TERM", x.copy(2, 8, 1), broken ? 0 : 200);
                    due.is(when + ": PROMISE", x.copy(2, 8, 2), broken ? 0 : 200);
                    due.is(when + ": LIST", x.volume(2, 2, 2), 0);
                    due.is(when + ": the next TICK", x.pass(1), broken ? 0 : 1);
                    due.is(when + ": LIST then", x.volume(2, 2, 2), broken ? 0 : 1 << 8);
                }
            }
        }
    }

    private static void theListComesBeforeTheLetter() {
        PromiseHours x = heldByOne(40, 10, 9);
        x.there(2, 0);
        due.is("write(8, 1)", x.write(8, 1), 1);
        x.pass(1);
        due.is("there(2, 1) after the LIST", x.there(2, 1), 0);
        due.is("no LETTER", x.count(5), 0);
        due.is("LIST", x.volume(2, 2, 2), 1 << 8);
        due.is("COPY", x.copy(2, 8, 0), 0);
    }

    private static void whoHoldsNoMoreIsLeftAlone() {
        for (int way = 0; way <= 1; way++) {
            PromiseHours x = heldByOne(5, 10, 5);
            due.is("write(8, " + way + ")", x.write(8, way), 0);
            due.is("COPY", x.copy(2, 8, 0), 0);
            due.is("TERM", x.copy(2, 8, 1), 5);
            due.is("PROMISE", x.copy(2, 8, 2), 5);
            due.is("LIST", x.volume(2, 2, 2), 0);
            due.is("LETTERS", x.count(5), 0);
            x.skew(2, -2);
            due.is("a slow clock reads it STALE", x.read(2, 8), 1);
        }
    }

    private static void aClockDoesNotMoveTheHouse() {
        for (int skew : new int[] {-20, -1, 0, 1, 20}) {
            PromiseHours x = heldByOne(40, 10, 3);
            x.rule(2, 9);
            x.skew(2, skew);
            due.is("SKEW " + skew, x.write(8, 0), 7);
            due.is("SKEW " + skew, x.pass(6), 0);
            due.is("SKEW " + skew, x.pass(1), 1);
        }
    }

    /** "If there is no HOLDER then, the WRITE is DONE: the VERSION is one more, and it WAITS no more." */
    private static void noHolderMeansDone() {
        PromiseHours x = new PromiseHours();
        for (int i = 1; i <= 100; i++) {
            due.is("write(0, " + i % 2 + ")", x.write(0, i % 2), 0);
            due.is("VERSION", x.thing(0, 0), i);
            due.is("it WAITS", x.thing(0, 1), 0);
        }
        due.is("another's VERSION", x.thing(1, 0), 0);
        due.is("DONE", x.count(3), 100);
        due.is("WAIT", x.count(4), 0);
    }

    /** READERS 0 and 3 with a TERM of the VOLUME that is past, 1, 2 and 4 with one that lasts. */
    private static PromiseHours heldByFive() {
        PromiseHours x = new PromiseHours();
        x.read(0, 8);
        x.read(3, 8);
        x.pass(10);
        x.read(1, 8);
        x.read(2, 8);
        x.read(4, 8);
        due.is("HOLDERS", x.thing(8, 4), ALL_READERS);
        return x;
    }

    private static void fiveHoldersGoEachInItsWay() {
        PromiseHours x = heldByFive();
        due.is("write(8, 1)", x.write(8, 1), 0);
        int[] letters = {0, 1, 1, 0, 1};
        for (int r = 0; r < Told.READERS; r++) {
            due.is("LETTERS to " + r, x.reader(r, 6), letters[r]);
            due.is("LIST of " + r, x.volume(r, 2, 2), letters[r] == 1 ? 0 : 1 << 8);
            due.is("COPY of " + r, x.copy(r, 8, 0), letters[r] == 1 ? PromiseHours.NONE : 0);
        }
        due.is("HOLDERS", x.thing(8, 4), 0);
        due.is("VERSION", x.thing(8, 0), 1);
    }

    private static void oneHolderLeftMeansWaiting() {
        for (int left : new int[] {1, 2, 4}) {
            PromiseHours x = heldByFive();
            x.there(left, 0);
            due.is("write(8, 1)", x.write(8, 1), 10);
            due.is("HOLDERS", x.thing(8, 4), 1 << left);
            due.is("VERSION", x.thing(8, 0), 0);
            due.is("LETTERS", x.count(5), 2);
            due.is("on LISTS", x.count(6), 2);
            due.is("pass(10)", x.pass(10), 1);
            due.is("VERSION", x.thing(8, 0), 1);
        }
    }

    /** "TICKS pass one by one; at each new one all WRITES that WAIT are SETTLED" */
    private static void settlesAtEveryTickThatPasses() {
        PromiseHours x = heldByOne(40, 10, 0);
        x.write(8, 0);
        due.is("pass(100), beyond TERM and PROMISE", x.pass(100), 1);
        due.is("it came on the LIST at 10", x.volume(2, 2, 2), 1 << 8);
        due.is("PROMISE", x.copy(2, 8, 2), 0);
        PromiseHours y = heldByOne(10, 40, 0);
        y.write(8, 0);
        due.is("pass(100), beyond PROMISE and TERM", y.pass(100), 1);
        due.is("it held no more at 10", y.volume(2, 2, 2), 0);
        due.is("PROMISE", y.copy(2, 8, 2), 10);
        PromiseHours z = heldByOne(10, 10, 0);
        z.write(8, 0);
        due.is("pass(100), beyond both, alike", z.pass(100), 1);
        due.is("who holds no more comes on no LIST", z.volume(2, 2, 2), 0);
    }

    /** "in the order in which they came" */
    private static void settlesInTheOrderInWhichTheyCame() {
        int[] order = {5, 0, 11, 3, 8, 1, 10, 2, 9, 4, 7, 6};
        PromiseHours x = new PromiseHours();
        x.rule(1, 100);
        for (int i = 0; i < order.length; i++) {
            x.rule(0, 1 + i * 7 % 12);
            x.read(i % Told.READERS, order[i]);
        }
        for (int t : order) {
            due.holds("it WAITS", x.write(t, 0) > 0);
        }
        for (int tick = 1; tick <= 12; tick++) {
            due.is("DONE at " + tick, x.pass(1), 1);
            int place = 0;
            for (int i = 0; i < order.length; i++) {
                if (1 + i * 7 % 12 > tick) {
                    due.is("waiting(" + place + ") at " + tick, x.waiting(place), order[i]);
                    place++;
                }
            }
            due.is("no more at " + tick, x.waiting(place), PromiseHours.NONE);
        }
    }

    /** "When a READER that was away is THERE again, all are SETTLED likewise." */
    private static void comingBackSettlesAll() {
        PromiseHours x = Scenes.full();
        for (int r = 0; r < 4; r++) {
            due.is("there(" + r + ", 1)", x.there(r, 1), 0);
            due.is("LETTERS", x.count(5), 6 * (r + 1));
            due.is("HOLDERS of 1", x.thing(1, 4), ALL_READERS & -(2 << r));
            due.is("HOLDERS of 0", x.thing(0, 4), ALL_READERS);
        }
        due.is("the last one", x.there(4, 1), 6);
        for (int i = 0; i < 6; i++) {
            due.is("waiting(" + i + ")", x.waiting(i), 10 - 2 * i);
        }
        due.is("waiting(6)", x.waiting(6), PromiseHours.NONE);
        due.is("pass(10)", x.pass(10), 6);
    }

    private static void goingAwaySettlesNothing() {
        PromiseHours x = heldByOne(40, 10, 0);
        x.there(2, 0);
        x.write(8, 1);
        x.there(2, 1);
        x.read(2, 8);
        due.is("write(8, 0)", x.write(8, 0), 10);
        int[] before = Told.all(x);
        due.is("there(2, 0)", x.there(2, 0), 0);
        due.is("there(2, 1)", x.there(2, 1), 0);
        due.same("away and back, way 0", before, x);
    }

    private static void aReadSettlesNothing() {
        PromiseHours x = heldByOne(40, 10, 9);
        x.write(8, 0);
        due.is("read(2, 9), RENEWED", x.read(2, 9), 2);
        due.is("it WAITS", x.thing(8, 1), 1);
        due.is("DUE", x.thing(8, 3), 19);
        due.is("pass(9)", x.pass(9), 0);
        due.is("pass(1)", x.pass(1), 1);
    }

    /** "DUE of a WRITE that WAITS: the TICK at which it is DONE, if nothing but TICKS comes." */
    private static void dueIsTheTickAtWhichItIsDone() {
        for (int longTerm : new int[] {1, 2, 99, 100, 101, 199, 200}) {
            for (int shortTerm : new int[] {1, 2, 99, 100}) {
                PromiseHours x = new PromiseHours();
                x.pass(7);
                x.rule(0, longTerm);
                x.rule(1, shortTerm);
                x.read(2, 8);
                int ticks = Math.min(longTerm, shortTerm);
                String when = "LONG " + longTerm + ", SHORT " + shortTerm;
                due.is(when + ": write", x.write(8, 0), ticks);
                due.is(when + ": DUE", x.thing(8, 3), 7 + ticks);
                Scenes.passTo(x, 7 + ticks - 1);
                due.is(when + ": the TICK before", x.thing(8, 1), 1);
                due.is(when + ": DUE stays", x.thing(8, 3), 7 + ticks);
                due.is(when + ": the TICK", x.pass(1), 1);
                due.is(when + ": DUE of none", x.thing(8, 3), PromiseHours.NONE);
            }
        }
    }

    private static void dueIsTheGreatestOfTheLesserOnes() {
        PromiseHours x = new PromiseHours();
        int[][] rules = {{30, 20}, {25, 90}, {200, 24}, {3, 3}, {24, 26}};
        for (int r = 0; r < rules.length; r++) {
            x.rule(0, rules[r][0]);
            x.rule(1, rules[r][1]);
            x.read(r, 8);
        }
        due.is("write(8, 0)", x.write(8, 0), 25);
        due.is("DUE", x.thing(8, 3), 25);
        due.is("pass(24)", x.pass(24), 0);
        due.is("pass(1)", x.pass(1), 1);
    }

    private static void dueMayComeNearer() {
        PromiseHours x = new PromiseHours();
        x.rule(0, 200);
        x.rule(1, 100);
        x.rule(2, 9);
        x.read(2, 8);
        due.is("write(8, 0)", x.write(8, 0), 100);
        x.skew(2, 20);
        x.rule(1, 1);
        x.pass(71);
        due.is("DUE", x.thing(8, 3), 100);
        due.is("a fast clock RENEWS", x.read(2, 9), 2);
        due.is("DUE by a lesser TERM", x.thing(8, 3), 72);
        due.is("pass(1)", x.pass(1), 1);
    }

    private static void aLetterLeavesOtherThings() {
        PromiseHours x = new PromiseHours();
        for (int t = 0; t < Told.THINGS; t++) {
            x.read(1, t);
        }
        x.write(9, 1);
        for (int t = 0; t < Told.THINGS; t++) {
            due.is("COPIES of " + t, x.thing(t, 5), t == 9 ? 0 : 2);
            due.is("HOLDERS of " + t, x.thing(t, 4), t == 9 ? 0 : 2);
        }
        due.is("TERM of the VOLUME", x.volume(1, 2, 0), 10);
        due.is("lost by no LIST", x.reader(1, 7), 0);
    }
}
