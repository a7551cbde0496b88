/** Promise 9: waited. */
final class Promise09WaitedTest {
    private static final Due due = new Due("promise 9");

    public static void main(String[] args) {
        noneBeforeAnyWrite();
        greaterOnesFirst();
        alikeOnesByNumber();
        thePromiseCountsIfLesser();
        onlyWhomItHasToWaitFor();
        keepsTheLastWriteAsItWasTold();
        fromNoneToAll();
        aLongerRowLeavesNothingBehind();
        alikeByPromiseAndByTerm();
        due.end();
    }

    private static void waited(String when, PromiseHours x, int... wants) {
        for (int i = 0; i < wants.length; i++) {
            due.is(when + ": waited(" + i + ")", x.waited(i), wants[i]);
        }
        due.is(when + ": waited(" + wants.length + ")", x.waited(wants.length), PromiseHours.NONE);
        due.is(when + ": waited(-1)", x.waited(-1), PromiseHours.NONE);
        due.is(when + ": waited(5)", x.waited(5), PromiseHours.NONE);
        due.is(when + ": least", x.waited(Integer.MIN_VALUE), PromiseHours.NONE);
        due.is(when + ": greatest", x.waited(Integer.MAX_VALUE), PromiseHours.NONE);
    }

    private static void noneBeforeAnyWrite() {
        PromiseHours x = new PromiseHours();
        waited("new", x);
        x.read(0, 0);
        x.write(0, 2);
        waited("after a refused WRITE", x);
    }

    private static void greaterOnesFirst() {
        PromiseHours x = new PromiseHours();
        for (int r : new int[] {2, 0, 4, 1, 3}) {
            x.read(r, 6);
            x.pass(1);
        }
        x.write(6, 0);
        waited("by the VOLUME's TERM", x, 3, 1, 4, 0, 2);
    }

    private static void alikeOnesByNumber() {
        PromiseHours x = new PromiseHours();
        x.read(4, 6);
        x.read(1, 6);
        x.read(0, 6);
        x.pass(1);
        x.read(3, 6);
        x.read(2, 6);
        x.write(6, 0);
        waited("alike", x, 2, 3, 0, 1, 4);
    }

    private static void thePromiseCountsIfLesser() {
        PromiseHours x = new PromiseHours();
        x.rule(1, 50);
        x.rule(0, 20);
        x.read(0, 0);
        x.rule(0, 5);
        x.rule(1, 90);
        x.read(1, 0);
        x.rule(0, 30);
        x.rule(1, 12);
        x.read(2, 0);
        due.is("write(0, 0)", x.write(0, 0), 20);
        waited("20, 5, 12", x, 0, 2, 1);
    }

    private static void onlyWhomItHasToWaitFor() {
        PromiseHours x = new PromiseHours();
        x.read(0, 0);
        x.pass(10);
        for (int r = 1; r < 5; r++) {
            x.read(r, 0);
        }
        x.there(2, 0);
        x.there(4, 0);
        x.write(0, 1);
        waited("0 on the LIST, 1 and 3 by LETTERS", x, 2, 4);
        x.write(1, 0);
        waited("a WRITE that is DONE", x);
    }

    private static void keepsTheLastWriteAsItWasTold() {
        PromiseHours x = new PromiseHours();
        x.read(0, 0);
        x.read(1, 4);
        x.write(4, 0);
        x.write(0, 0);
        waited("the last", x, 0);
        x.write(4, 0);
        waited("after a refused WRITE", x, 0);
        x.pass(20);
        x.read(3, 0);
        waited("after it is DONE", x, 0);
    }

    private static void fromNoneToAll() {
        for (int holders = 0; holders <= Told.READERS; holders++) {
            PromiseHours x = new PromiseHours();
            int[] wants = new int[holders];
            for (int r = 0; r < holders; r++) {
                x.read(r, 3);
                wants[r] = r;
            }
            x.write(3, 0);
            waited(holders + " HOLDERS", x, wants);
        }
    }

    private static void aLongerRowLeavesNothingBehind() {
        PromiseHours x = Scenes.full();
        waited("five", x, 0, 1, 2, 3, 4);
        x.there(1, 1);
        x.pass(10);
        waited("as it was told, after it is DONE", x, 0, 1, 2, 3, 4);
        x.read(1, 0);
        x.write(0, 0);
        waited("one after five", x, 1);
        x.write(9, 0);
        waited("none after one", x);
    }

    /** "first those for whom the lesser one of the PROMISE and the TERM of the VOLUME was greater, of alike ones the least" */
    private static void alikeByPromiseAndByTerm() {
        PromiseHours x = new PromiseHours();
        int[][] rules = {{12, 50}, {60, 12}, {12, 12}, {13, 14}, {200, 11}};
        for (int r = Told.READERS - 1; r >= 0; r--) {
            x.rule(0, rules[r][0]);
            x.rule(1, rules[r][1]);
            x.read(r, 7);
        }
        due.is("write(7, 0)", x.write(7, 0), 13);
        waited("12, 12, 12, 13, 11", x, 3, 0, 1, 2, 4);
    }
}
