import java.util.Random;

/** Long runs of calls, each answer and all that is told compared with Model. */
final class ModelTest {
    private static final int RUNS = 300;
    private static final int CALLS = 512;
    private static final String[] NAMES =
            {"rule", "skew", "there", "read", "write", "pass", "image", "restore"};
    private static final int[] WRONG = {Integer.MIN_VALUE, -21, -1, 2, 4, 5, 12, 101, 501, Integer.MAX_VALUE};
    private static final int[] KINDS = {
        Model.READ, Model.READ, Model.READ, Model.READ, Model.READ, Model.READ, Model.READ, Model.READ,
        Model.WRITE, Model.WRITE, Model.WRITE, Model.WRITE, Model.PASS, Model.PASS, Model.PASS, Model.PASS,
        Model.THERE, Model.THERE, Model.SKEW, Model.RULE, Model.IMAGE, Model.RESTORE};

    private static final Due due = new Due("model");
    private static final int[] answered = new int[5];

    public static void main(String[] args) {
        for (int run = 0; run < RUNS; run++) {
            play(run);
        }
        for (int how = 0; how < answered.length; how++) {
            due.holds("some READ answered " + how, answered[how] > 0);
        }
        due.end();
    }

    private static void play(int run) {
        Random random = new Random(run);
        PromiseHours x = new PromiseHours();
        Model model = new Model();
        for (int i = 0; i < CALLS; i++) {
            int[] c = drawn(random, run);
            int got = call(x, c);
            String text = "run " + run + ", call " + i + ", " + NAMES[c[0]] + "(" + c[1] + ", " + c[2] + ")";
            due.is(text, got, model.call(c));
            if (c[0] == Model.READ && got >= 0) {
                answered[got]++;
            }
            compare(text, x, model);
        }
    }

    private static int[] drawn(Random random, int run) {
        int[] c = fitting(random, run);
        if (random.nextInt(20) == 0) {
            c[1 + random.nextInt(2)] = WRONG[random.nextInt(WRONG.length)];
        }
        return c;
    }

    /** Runs differ in how long things last, so that each kind of end is met. */
    private static int[] fitting(Random random, int run) {
        int kind = KINDS[random.nextInt(KINDS.length)];
        int things = run % 3 == 0 ? 12 : 3 + run % 5;
        switch (kind) {
            case Model.RULE: return ruleOf(random, run);
            case Model.SKEW: return new int[] {kind, random.nextInt(5), random.nextInt(41) - 20};
            case Model.THERE: return new int[] {kind, random.nextInt(5), random.nextInt(2)};
            case Model.READ: return new int[] {kind, random.nextInt(5), random.nextInt(things)};
            case Model.WRITE: return new int[] {kind, random.nextInt(things), random.nextInt(2)};
            case Model.PASS:
                return new int[] {kind, 1 + random.nextInt(random.nextInt(10) == 0 ? 100 : 1 + run % 9), 0};
            default: return new int[] {kind, random.nextInt(2), 0};
        }
    }

    private static int[] ruleOf(Random random, int run) {
        int[] greatest = run % 2 == 0 ? new int[] {200, 100, 9, 500} : new int[] {25, 25, 4, 12};
        int what = random.nextInt(4);
        return new int[] {Model.RULE, what, random.nextInt(greatest[what] + 1)};
    }

    private static int call(PromiseHours x, int[] c) {
        switch (c[0]) {
            case Model.RULE: return x.rule(c[1], c[2]);
            case Model.SKEW: return x.skew(c[1], c[2]);
            case Model.THERE: return x.there(c[1], c[2]);
            case Model.READ: return x.read(c[1], c[2]);
            case Model.WRITE: return x.write(c[1], c[2]);
            case Model.PASS: return x.pass(c[1]);
            case Model.IMAGE: return x.image(c[1]);
            default: return x.restore(c[1]);
        }
    }

    private static void compare(String after, PromiseHours x, Model model) {
        for (int i = -1; i <= 12; i++) {
            due.is(after + ": cause(" + i + ")", x.cause(i), model.cause(i));
            due.is(after + ": waited(" + i + ")", x.waited(i), model.waited(i));
            due.is(after + ": waiting(" + i + ")", x.waiting(i), model.waiting(i));
        }
        for (int what = 0; what <= 13; what++) {
            due.is(after + ": count(" + what + ")", x.count(what), model.count(what));
        }
        for (int t = 0; t < Told.THINGS; t++) {
            for (int what = 0; what <= 6; what++) {
                due.is(after + ": thing(" + t + ", " + what + ")", x.thing(t, what), model.thing(t, what));
            }
        }
        for (int r = 0; r < Told.READERS; r++) {
            compareReader(after, x, model, r);
        }
    }

    private static void compareReader(String after, PromiseHours x, Model model, int r) {
        for (int what = 0; what <= 7; what++) {
            due.is(after + ": reader(" + r + ", " + what + ")", x.reader(r, what), model.reader(r, what));
        }
        for (int v = 0; v < Told.VOLUMES; v++) {
            for (int what = 0; what <= 2; what++) {
                due.is(after + ": volume(" + r + ", " + v + ", " + what + ")",
                        x.volume(r, v, what), model.volume(r, v, what));
            }
        }
        for (int t = 0; t < Told.THINGS; t++) {
            for (int what = 0; what <= 3; what++) {
                due.is(after + ": copy(" + r + ", " + t + ", " + what + ")",
                        x.copy(r, t, what), model.copy(r, t, what));
            }
        }
    }
}
