/** Terms, paragraph 2: when a TERM of a VOLUME is RENEWED, what KEEP does then, and CAUSES. */
final class Terms2RenewalTest {
    private static final Due due = new Due("terms 2");

    public static void main(String[] args) {
        renewsWhenItIsOver();
        renewsWhenItIsNoGreaterThanTick();
        aFastClockMayMakeATermLesser();
        termsAreTickAndShortOrLong();
        anEmptyListLosesNothing();
        aListLosesJustItsThings();
        aListLosesAllBeyondKeep();
        keepIsThatOfTheRenewal();
        aFullListLosesAllFour();
        theThingThatIsReadMayBeOnTheList();
        losesByTheListThoughAWriteWaits();
        aListIsOfOneReaderAndOneVolume();
        promisesLostByKeepHoldNoWrite();
        usingRenewsNothing();
        readingNothingChangesNothingElse();
        everyMixtureOfCauses();
        due.end();
    }

    /** "if the TERM of the VOLUME is OVER to it, or is no greater than TICK, that is RENEWED" */
    private static void renewsWhenItIsOver() {
        for (int skew : new int[] {0, 1, 8}) {
            PromiseHours x = new PromiseHours();
            x.skew(0, skew);
            x.read(0, 0);
            Scenes.passTo(x, 8 - skew);
            x.read(0, 1);
            due.is("SKEW " + skew + ", a TICK before it is OVER", x.count(7), 1);
            x.pass(1);
            x.read(0, 2);
            due.is("SKEW " + skew + ", OVER", x.count(7), 2);
            due.is("TERM", x.volume(0, 0, 0), 19 - skew);
        }
    }

    private static void renewsWhenItIsNoGreaterThanTick() {
        for (int skew : new int[] {-2, -3, -20}) {
            PromiseHours x = new PromiseHours();
            x.skew(0, skew);
            due.is("a TERM of 0 at TICK 0 is not OVER to it", x.volume(0, 0, 1), 0);
            x.read(0, 0);
            due.is("but is RENEWED", x.count(7), 1);
            x.pass(9);
            x.read(0, 1);
            due.is("SKEW " + skew + ", greater than TICK by 1", x.count(7), 1);
            x.pass(1);
            due.is("SKEW " + skew + ", not OVER", x.volume(0, 0, 1), 0);
            x.read(0, 2);
            due.is("SKEW " + skew + ", as great as TICK", x.count(7), 2);
            due.is("TERM", x.volume(0, 0, 0), 20);
        }
    }

    private static void aFastClockMayMakeATermLesser() {
        PromiseHours x = new PromiseHours();
        x.rule(1, 100);
        x.rule(2, 9);
        x.read(0, 0);
        x.skew(0, 20);
        x.pass(71);
        x.rule(1, 1);
        x.read(0, 1);
        due.is("TERM of 100 at 71", x.volume(0, 0, 0), 72);
        due.is("COPY stays", x.copy(0, 0, 0), 0);
    }

    /** "The TERM of the VOLUME is TICK and SHORT, added." "the TERM and the PROMISE are TICK and LONG, added." */
    private static void termsAreTickAndShortOrLong() {
        for (int tick : new int[] {0, 1, 100, 5000}) {
            for (int[] rules : new int[][] {{1, 1}, {1, 100}, {200, 1}, {200, 100}, {40, 10}}) {
                PromiseHours x = new PromiseHours();
                x.rule(0, rules[0]);
                x.rule(1, rules[1]);
                Scenes.passTo(x, tick);
                due.is("read(4, 11)", x.read(4, 11), 2);
                due.is("TERM", x.copy(4, 11, 1), tick + rules[0]);
                due.is("PROMISE", x.copy(4, 11, 2), tick + rules[0]);
                due.is("TERM of the VOLUME", x.volume(4, 2, 0), tick + rules[1]);
            }
        }
    }

    /** "if its LIST of this VOLUME is not empty" */
    private static void anEmptyListLosesNothing() {
        PromiseHours x = new PromiseHours();
        x.rule(3, 0);
        x.read(0, 0);
        x.read(0, 1);
        Scenes.passTo(x, 700);
        due.is("690 beyond the TERM, KEEP 0", x.read(0, 2), 2);
        due.is("COPY of 0", x.copy(0, 0, 0), 0);
        due.is("TERM of 0", x.copy(0, 0, 1), 40);
        due.is("PROMISE of 1", x.copy(0, 1, 2), 40);
        due.is("lost", x.reader(0, 7), 0);
        due.is("RENEWED", x.count(7), 2);
    }

    /**
     * READER 3 has COPIES of THINGS 4 to 6, those of the set on its LIST, and
     * the TICK is as far beyond the TERM of its VOLUME.
     */
    private static PromiseHours listed(int set, int keep, int beyondTheTerm) {
        PromiseHours x = new PromiseHours();
        x.rule(0, 200);
        x.rule(3, keep);
        for (int t = 4; t <= 6; t++) {
            x.read(3, t);
        }
        x.pass(10);
        for (int t = 4; t <= 6; t++) {
            if ((set & 1 << t) != 0) {
                x.write(t, 0);
            }
        }
        Scenes.passTo(x, 10 + beyondTheTerm);
        due.is("LIST", x.volume(3, 1, 2), set);
        return x;
    }

    private static void renewsToCopiesOf(String when, PromiseHours x, int set) {
        due.is(when + ": read(3, 7)", x.read(3, 7), 2);
        for (int t = 4; t <= 6; t++) {
            boolean has = (set & 1 << t) != 0;
            due.is(when + ": COPY of " + t, x.copy(3, t, 0), has ? 0 : PromiseHours.NONE);
            due.is(when + ": TERM of " + t, x.copy(3, t, 1), has ? 200 : 0);
            due.is(when + ": PROMISE of " + t, x.copy(3, t, 2), has ? 200 : 0);
        }
        due.is(when + ": lost", x.reader(3, 7), 3 - Integer.bitCount(set));
        due.is(when + ": the LIST is empty then", x.volume(3, 1, 2), 0);
        due.is(when + ": RENEWED", x.count(7), 2);
        due.is(when + ": TERM", x.volume(3, 1, 0), x.count(0) + 10);
    }

    /** "of all THINGS in it .. its COPIES go, and their TERMS and PROMISES are 0; the LIST is empty then" */
    private static void aListLosesJustItsThings() {
        for (int set = 0; set <= 0x70; set += 0x10) {
            for (int beyond : new int[] {0, 1, 4, 5}) {
                PromiseHours x = listed(set, 5, beyond);
                renewsToCopiesOf("LIST " + set + ", " + beyond + " beyond", x, 0x70 & ~set);
            }
        }
    }

    /** "of all of the VOLUME if TICK less that TERM is greater than KEEP" */
    private static void aListLosesAllBeyondKeep() {
        for (int keep : new int[] {0, 1, 5, 100, 499, 500}) {
            for (int set = 0; set <= 0x70; set += 0x10) {
                String when = "KEEP " + keep + ", LIST " + set;
                renewsToCopiesOf(when + ", as far", listed(set, keep, keep), 0x70 & ~set);
                renewsToCopiesOf(when + ", one farther", listed(set, keep, keep + 1), set == 0 ? 0x70 : 0);
            }
        }
    }

    private static void keepIsThatOfTheRenewal() {
        PromiseHours greater = listed(0x20, 5, 6);
        greater.rule(3, 6);
        renewsToCopiesOf("KEEP 6 in place of 5", greater, 0x50);
        PromiseHours lesser = listed(0x20, 6, 6);
        lesser.rule(3, 5);
        renewsToCopiesOf("KEEP 5 in place of 6", lesser, 0);
    }

    private static void aFullListLosesAllFour() {
        for (int v = 0; v < Told.VOLUMES; v++) {
            PromiseHours x = new PromiseHours();
            for (int t = 4 * v; t < 4 * v + 4; t++) {
                x.read(2, t);
            }
            x.pass(10);
            for (int t = 4 * v; t < 4 * v + 4; t++) {
                x.write(t, 1);
            }
            due.is("LIST of " + v, x.volume(2, v, 2), 15 << 4 * v);
            due.is("read", x.read(2, 4 * v + 3), 2);
            due.is("lost", x.reader(2, 7), 4);
            due.is("LIST of " + v, x.volume(2, v, 2), 0);
            for (int t = 4 * v; t < 4 * v + 3; t++) {
                due.is("COPY of " + t, x.copy(2, t, 0), PromiseHours.NONE);
                due.is("TERM of " + t, x.copy(2, t, 1), 0);
            }
            due.is("a new COPY", x.copy(2, 4 * v + 3, 0), 1);
        }
    }

    private static void theThingThatIsReadMayBeOnTheList() {
        PromiseHours x = listed(0x20, 5, 5);
        due.is("read(3, 5)", x.read(3, 5), 2);
        due.is("cause(0)", x.cause(0), 2);
        due.is("cause(1): it had a COPY, and a TERM that lasts", x.cause(1), PromiseHours.NONE);
        due.is("lost", x.reader(3, 7), 1);
        due.is("COPY of 5", x.copy(3, 5, 0), 1);
        due.is("TERM of 5", x.copy(3, 5, 1), 215);
        due.is("PROMISE of 5", x.copy(3, 5, 2), 215);
        due.is("COPY of 4", x.copy(3, 4, 0), 0);
    }

    /** "If no WRITE of it WAITS, it has a COPY": it may lose one by the LIST and get none. */
    private static void losesByTheListThoughAWriteWaits() {
        PromiseHours x = new PromiseHours();
        x.read(3, 5);
        x.pass(10);
        x.read(1, 5);
        due.is("write(5, 0)", x.write(5, 0), 10);
        due.is("LIST", x.volume(3, 1, 2), 0x20);
        due.is("read(3, 5)", x.read(3, 5), 3);
        due.is("COPY", x.copy(3, 5, 0), PromiseHours.NONE);
        due.is("TERM", x.copy(3, 5, 1), 0);
        due.is("PROMISE", x.copy(3, 5, 2), 0);
        due.is("lost", x.reader(3, 7), 1);
        due.is("VERSION read", x.reader(3, 2), 0);
        due.is("TERM of the VOLUME", x.volume(3, 1, 0), 20);
        due.is("HOLDERS", x.thing(5, 4), 2);
        due.is("pass(10)", x.pass(10), 1);
        due.is("it is on no LIST again", x.volume(3, 1, 2), 0);
    }

    private static void aListIsOfOneReaderAndOneVolume() {
        PromiseHours x = new PromiseHours();
        for (int r = 0; r < Told.READERS; r++) {
            for (int t : new int[] {3, 4, 7, 8}) {
                x.read(r, t);
            }
        }
        x.rule(3, 0);
        x.pass(11);
        for (int t : new int[] {3, 4, 8}) {
            x.write(t, 0);
        }
        x.read(2, 5);
        due.is("COPIES of 3", x.thing(3, 5), 31);
        due.is("COPIES of 4", x.thing(4, 5), 31 - 4);
        due.is("COPIES of 7", x.thing(7, 5), 31 - 4);
        due.is("COPIES of 8", x.thing(8, 5), 31);
        due.is("LIST of 0", x.volume(2, 0, 2), 1 << 3);
        due.is("LIST of 2", x.volume(2, 2, 2), 1 << 8);
        due.is("LIST of another", x.volume(1, 1, 2), 1 << 4);
        due.is("TERM of VOLUME 0", x.volume(2, 0, 0), 10);
        due.is("TERM of VOLUME 1", x.volume(2, 1, 0), 21);
        due.is("lost", x.reader(2, 7), 2);
        due.is("lost by another", x.reader(1, 7), 0);
    }

    private static void promisesLostByKeepHoldNoWrite() {
        PromiseHours x = listed(0x10, 0, 1);
        due.is("HOLDERS of 6", x.thing(6, 4), 8);
        x.read(3, 7);
        due.is("HOLDERS of 6, beyond KEEP", x.thing(6, 4), 0);
        due.is("write(6, 0)", x.write(6, 0), 0);
        due.is("nothing comes on a LIST", x.count(6), 1);
    }

    /** "if it can USE its COPY: it reads the VERSION of that" */
    private static void usingRenewsNothing() {
        PromiseHours x = listed(0x20, 5, 1);
        x.skew(3, -20);
        int[] wants = {x.volume(3, 1, 0), x.count(7), x.reader(3, 4), x.volume(3, 1, 2), x.copy(3, 5, 1)};
        due.is("read(3, 5) by a slow clock", x.read(3, 5), 1);
        due.is("read(3, 4) by a slow clock", x.read(3, 4), 0);
        int[] found = {x.volume(3, 1, 0), x.count(7), x.reader(3, 4), x.volume(3, 1, 2), x.copy(3, 5, 1)};
        for (int i = 0; i < wants.length; i++) {
            due.is("row " + i, found[i], wants[i]);
        }
        due.is("lost", x.reader(3, 7), 0);
    }

    /** "Else, if it is away: it reads nothing." */
    private static void readingNothingChangesNothingElse() {
        PromiseHours x = listed(0x20, 0, 1);
        x.there(3, 0);
        due.is("read(3, 5)", x.read(3, 5), 4);
        due.is("read nothing", x.reader(3, 5), 1);
        due.is("read(3, 5)", x.read(3, 5), 4);
        due.is("read nothing", x.reader(3, 5), 2);
        due.is("VERSION read last", x.reader(3, 2), 0);
        due.is("LIST", x.volume(3, 1, 2), 0x20);
        due.is("COPY", x.copy(3, 5, 0), 0);
        due.is("TERM", x.volume(3, 1, 0), 10);
        due.is("RENEWED", x.count(7), 1);
    }

    /**
     * CAUSES that can fit together: 4 alone and 1 with 4 want a slow clock, as a
     * THING without a COPY has a TERM of 0; 2 with 4 never fits without 3, as no
     * TERM is below 0.
     */
    private static void everyMixtureOfCauses() {
        for (int away = 0; away <= 1; away++) {
            causes(overs(0, 0, 0), away, 4);
            causes(overs(100, 0, 0), away, 3, 4);
            causes(overs(10, 0, 50), away, 2, 3, 4);
            causes(overs(100, 20, 50), away, 3);
            causes(overs(10, 100, 50), away, 2);
            causes(overs(10, 20, 50), away, 2, 3);
        }
    }

    /** READER 2 with a TERM of VOLUME 0 and of THING 0, 0 for none; a slow clock if TICK stays 0. */
    private static PromiseHours overs(int volumeTerm, int thingTerm, int tick) {
        PromiseHours x = new PromiseHours();
        if (volumeTerm > 0) {
            x.rule(1, volumeTerm);
            x.rule(0, thingTerm > 0 ? thingTerm : 1);
            x.read(2, thingTerm > 0 ? 0 : 1);
        }
        Scenes.passTo(x, tick);
        x.skew(2, volumeTerm == 0 ? -2 : 0);
        return x;
    }

    private static void causes(PromiseHours x, int away, int... wants) {
        x.there(2, 1 - away);
        due.is("read(2, 0)", x.read(2, 0), away == 1 ? 4 : 2);
        if (away == 1) {
            due.is("cause(0)", x.cause(0), 1);
        }
        for (int i = 0; i < wants.length; i++) {
            due.is("cause(" + (away + i) + ")", x.cause(away + i), wants[i]);
        }
        due.is("no more", x.cause(away + wants.length), PromiseHours.NONE);
    }
}
