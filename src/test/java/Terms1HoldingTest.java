/** Terms, paragraph 1: ranges, when a TERM is OVER, who can USE a COPY, who is a HOLDER. */
final class Terms1HoldingTest {
    private static final Due due = new Due("terms 1");
    private static final int ALL_READERS = 31;

    public static void main(String[] args) {
        aVolumesTermIsOverAtTheSum();
        aThingsTermIsOverAtTheSum();
        aTermOfZeroIsOverFromZeroOn();
        aSumBelowZeroIsLessThanATermOfZero();
        theLeastTermsLastForOneTickOrNone();
        theGreatestTermsLastToTheirTick();
        useWantsACopy();
        useWantsTheThingsTerm();
        useWantsTheVolumesTerm();
        beingAwayEndsNoUse();
        aHolderHasAPromiseGreaterThanTick();
        aClockDoesNotMoveAHolder();
        setsOfReadersAreEmptyAndFull();
        due.end();
    }

    /** "To a READER a TERM is OVER, if TICK, SKEW and DOUBT together are no less than it." */
    private static void aVolumesTermIsOverAtTheSum() {
        for (int term : new int[] {1, 2, 10, 28, 29, 30, 99, 100}) {
            for (int doubt = 0; doubt <= 9; doubt++) {
                for (int skew = -20; skew <= 20; skew++) {
                    int flip = Math.max(0, term - doubt - skew);
                    PromiseHours x = withTerms(200, term, doubt, skew);
                    useEndsAt("SHORT " + term + ", DOUBT " + doubt + ", SKEW " + skew, x, flip);
                    due.is("then it is OVER", x.volume(0, 0, 1), 1);
                }
            }
        }
    }

    private static void aThingsTermIsOverAtTheSum() {
        for (int term : new int[] {1, 2, 10, 28, 29, 30, 50, 90}) {
            for (int doubt = 0; doubt <= 9; doubt++) {
                for (int skew = -20; skew <= 20; skew++) {
                    int flip = Math.max(0, term - doubt - skew);
                    PromiseHours x = withTerms(term, 100, doubt, skew);
                    useEndsAt("LONG " + term + ", DOUBT " + doubt + ", SKEW " + skew, x, flip);
                    due.is("the VOLUME's is not OVER", x.volume(0, 0, 1), 0);
                }
            }
        }
    }

    private static PromiseHours withTerms(int longTerm, int shortTerm, int doubt, int skew) {
        PromiseHours x = new PromiseHours();
        x.rule(0, longTerm);
        x.rule(1, shortTerm);
        x.rule(2, doubt);
        x.read(0, 0);
        x.skew(0, skew);
        return x;
    }

    private static void useEndsAt(String when, PromiseHours x, int tick) {
        if (tick > 0) {
            Scenes.passTo(x, tick - 1);
            due.is(when + ": the TICK before", x.copy(0, 0, 3), 1);
            due.is(when + ": the TICK before", x.volume(0, 0, 1), 0);
            x.pass(1);
        }
        due.is(when + ": the TICK", x.copy(0, 0, 3), 0);
    }

    private static void aTermOfZeroIsOverFromZeroOn() {
        PromiseHours x = new PromiseHours();
        x.skew(0, -1);
        due.is("TICK 0, SKEW -1, DOUBT 1: 0", x.volume(0, 2, 1), 1);
        x.skew(0, -2);
        due.is("TICK 0, SKEW -2, DOUBT 1: -1", x.volume(0, 2, 1), 0);
        x.pass(1);
        due.is("TICK 1, SKEW -2, DOUBT 1: 0", x.volume(0, 2, 1), 1);
        x.rule(2, 0);
        due.is("TICK 1, SKEW -2, DOUBT 0: -1", x.volume(0, 2, 1), 0);
    }

    private static void aSumBelowZeroIsLessThanATermOfZero() {
        PromiseHours x = new PromiseHours();
        x.rule(2, 0);
        x.skew(4, -20);
        due.is("TICK 0, SKEW -20, DOUBT 0", x.volume(4, 0, 1), 0);
        x.pass(19);
        due.is("TICK 19", x.volume(4, 0, 1), 0);
        x.pass(1);
        due.is("TICK 20", x.volume(4, 0, 1), 1);
        due.is("to another", x.volume(3, 0, 1), 1);
    }

    private static void theLeastTermsLastForOneTickOrNone() {
        PromiseHours x = new PromiseHours();
        x.rule(0, 1);
        x.rule(1, 1);
        due.is("DOUBT 1: read", x.read(0, 0), 2);
        due.is("DOUBT 1: read again", x.read(0, 0), 2);
        due.is("DOUBT 1: RENEWED each time", x.count(7), 2);
        x.rule(2, 0);
        due.is("DOUBT 0: read", x.read(0, 0), 0);
        x.pass(1);
        due.is("DOUBT 0: read a TICK later", x.read(0, 0), 2);
    }

    private static void theGreatestTermsLastToTheirTick() {
        PromiseHours x = new PromiseHours();
        x.rule(0, 200);
        x.rule(1, 100);
        x.rule(2, 9);
        x.skew(0, 20);
        x.read(0, 0);
        x.pass(70);
        due.is("70, 20 and 9 of 100", x.read(0, 0), 0);
        x.pass(1);
        due.is("71, 20 and 9 of 100", x.read(0, 1), 2);
        due.is("TERM of the VOLUME", x.volume(0, 0, 0), 171);
        x.pass(71);
        x.read(0, 1);
        x.pass(28);
        due.is("170, 20 and 9 of 200", x.read(0, 0), 0);
        x.pass(1);
        due.is("171, 20 and 9 of 200", x.read(0, 0), 2);
        due.is("cause(0)", x.cause(0), 3);
        due.is("cause(1)", x.cause(1), PromiseHours.NONE);
    }

    /** "It can USE a COPY, if it has one, and neither the TERM of the THING nor that of its VOLUME is OVER to it." */
    private static void useWantsACopy() {
        PromiseHours x = new PromiseHours();
        x.skew(1, -20);
        due.is("neither TERM is OVER: the VOLUME", x.volume(1, 0, 1), 0);
        due.is("but there is no COPY", x.copy(1, 0, 3), 0);
        due.is("READERS that can USE theirs", x.thing(0, 6), 0);
        due.is("it asks", x.read(1, 0), 2);
        due.is("cause(0)", x.cause(0), 4);
        due.is("then it can", x.copy(1, 0, 3), 1);
        x.write(0, 1);
        due.is("after a LETTER", x.copy(1, 0, 3), 0);
    }

    private static void useWantsTheThingsTerm() {
        PromiseHours x = new PromiseHours();
        x.rule(1, 100);
        x.rule(0, 5);
        x.read(1, 0);
        x.rule(0, 50);
        x.read(1, 1);
        x.pass(4);
        due.is("the THING's TERM is OVER", x.copy(1, 0, 3), 0);
        due.is("another's is not", x.copy(1, 1, 3), 1);
        due.is("nor the VOLUME's", x.volume(1, 0, 1), 0);
    }

    private static void useWantsTheVolumesTerm() {
        PromiseHours x = new PromiseHours();
        x.read(1, 3);
        x.read(1, 4);
        x.pass(9);
        due.is("the VOLUME's TERM is OVER", x.copy(1, 3, 3), 0);
        x.read(1, 5);
        due.is("not if another VOLUME is RENEWED", x.copy(1, 3, 3), 0);
        due.is("THINGS of that can be USED", x.copy(1, 4, 3), 1);
        x.read(1, 0);
        due.is("if its own VOLUME is RENEWED", x.copy(1, 3, 3), 1);
    }

    private static void beingAwayEndsNoUse() {
        PromiseHours x = new PromiseHours();
        x.read(1, 0);
        x.there(1, 0);
        due.is("away", x.copy(1, 0, 3), 1);
        due.is("READERS that can USE theirs", x.thing(0, 6), 2);
        due.is("read", x.read(1, 0), 0);
    }

    /** "A HOLDER of a THING: a READER whose PROMISE for it is greater than TICK." */
    private static void aHolderHasAPromiseGreaterThanTick() {
        for (int longTerm : new int[] {1, 2, 40, 100, 199, 200}) {
            PromiseHours x = new PromiseHours();
            due.is("PROMISE 0 at TICK 0", x.thing(0, 4), 0);
            x.rule(0, longTerm);
            x.pass(3);
            x.read(2, 0);
            due.is("PROMISE", x.copy(2, 0, 2), 3 + longTerm);
            Scenes.passTo(x, 2 + longTerm);
            due.is("LONG " + longTerm + ", the TICK before", x.thing(0, 4), 4);
            x.pass(1);
            due.is("LONG " + longTerm + ", at the TICK", x.thing(0, 4), 0);
            due.is("the PROMISE stays as it was", x.copy(2, 0, 2), 3 + longTerm);
            x.pass(1);
            due.is("LONG " + longTerm + ", the TICK after", x.thing(0, 4), 0);
        }
    }

    private static void aClockDoesNotMoveAHolder() {
        PromiseHours x = new PromiseHours();
        x.rule(0, 5);
        x.rule(2, 9);
        x.read(2, 0);
        x.skew(2, 20);
        due.is("a fast one cannot USE", x.thing(0, 6), 0);
        due.is("but holds", x.thing(0, 4), 4);
        x.pass(5);
        x.rule(2, 0);
        x.skew(2, -20);
        due.is("a slow one can USE", x.thing(0, 6), 4);
        due.is("but holds no more", x.thing(0, 4), 0);
    }

    /** "A set is a number: bit i tells whether i is in it." */
    private static void setsOfReadersAreEmptyAndFull() {
        for (int t = 0; t < Told.THINGS; t++) {
            PromiseHours x = new PromiseHours();
            for (int what = 4; what <= 6; what++) {
                due.is("thing(" + t + ", " + what + ") of none", x.thing(t, what), 0);
            }
            for (int r = 0; r < Told.READERS; r++) {
                x.read(r, t);
                for (int what = 4; what <= 6; what++) {
                    due.is("thing(" + t + ", " + what + ") to " + r, x.thing(t, what), (2 << r) - 1);
                }
            }
            due.is("all hold", x.thing(t, 4), ALL_READERS);
            due.is("of the next THING none", x.thing((t + 1) % Told.THINGS, 5), 0);
        }
    }
}
