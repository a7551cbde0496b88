/**
 * Terms: "Calls that are refused answer the first of these that fits: UNKNOWN,
 * OUTSIDE, STATE, NO. What is refused changes nothing." Every call is made with
 * every mixture of fitting numbers, the first beyond them and far ones, in
 * objects that are new, busy and full.
 */
final class RefusedTest {
    private static final Due due = new Due("refused calls");

    private interface Scene {
        PromiseHours make();
    }

    private interface Call {
        int of(PromiseHours x, int[] numbers);
    }

    /** A call's name, the ranges of its numbers, and what each answers beyond its range. */
    private record Face(String name, Call call, int[][] ranges) {
        int dueOf(int[] numbers) {
            for (int refusal : new int[] {PromiseHours.UNKNOWN, PromiseHours.OUTSIDE}) {
                for (int i = 0; i < numbers.length; i++) {
                    boolean fits = numbers[i] >= ranges[i][0] && numbers[i] <= ranges[i][1];
                    if (!fits && ranges[i][2] == refusal) {
                        return refusal;
                    }
                }
            }
            return 0;
        }
    }

    private static final int[] READER = {0, 4, PromiseHours.UNKNOWN};
    private static final int[] THING = {0, 11, PromiseHours.UNKNOWN};
    private static final int[] VOLUME = {0, 2, PromiseHours.UNKNOWN};

    private static final Face[] CHANGING = {
        new Face("skew", (x, n) -> x.skew(n[0], n[1]), new int[][] {READER, outside(-20, 20)}),
        new Face("there", (x, n) -> x.there(n[0], n[1]), new int[][] {READER, outside(0, 1)}),
        new Face("read", (x, n) -> x.read(n[0], n[1]), new int[][] {READER, THING}),
        new Face("write", (x, n) -> x.write(n[0], n[1]), new int[][] {THING, outside(0, 1)}),
        new Face("pass", (x, n) -> x.pass(n[0]), new int[][] {outside(1, 100)}),
        new Face("image", (x, n) -> x.image(n[0]), new int[][] {outside(0, 1)}),
        new Face("restore", (x, n) -> x.restore(n[0]), new int[][] {outside(0, 1)}),
        new Face("rule LONG", (x, n) -> x.rule(0, n[0]), new int[][] {outside(1, 200)}),
        new Face("rule SHORT", (x, n) -> x.rule(1, n[0]), new int[][] {outside(1, 100)}),
        new Face("rule DOUBT", (x, n) -> x.rule(2, n[0]), new int[][] {outside(0, 9)}),
        new Face("rule KEEP", (x, n) -> x.rule(3, n[0]), new int[][] {outside(0, 500)}),
        new Face("rule", (x, n) -> x.rule(n[0], n[1]), new int[][] {outside(0, 3), outside(0, 500)})};

    private static final Face[] TELLING = {
        new Face("thing", (x, n) -> x.thing(n[0], n[1]), new int[][] {THING, outside(0, 6)}),
        new Face("copy", (x, n) -> x.copy(n[0], n[1], n[2]), new int[][] {READER, THING, outside(0, 3)}),
        new Face("volume", (x, n) -> x.volume(n[0], n[1], n[2]), new int[][] {READER, VOLUME, outside(0, 2)}),
        new Face("reader", (x, n) -> x.reader(n[0], n[1]), new int[][] {READER, outside(0, 7)})};

    public static void main(String[] args) {
        Scene[] scenes = {PromiseHours::new, Scenes::busy, Scenes::full};
        for (int i = 0; i < scenes.length; i++) {
            for (Face face : CHANGING) {
                refusedChangesNothing("scene " + i, scenes[i], face);
            }
            for (Face face : TELLING) {
                tellingChangesNothing("scene " + i, scenes[i], face);
            }
            countRefusesNine("scene " + i, scenes[i]);
            rowsTellNoneBeyondTheirEnds("scene " + i, scenes[i]);
            refusedLeavesImagesAsTheyWere("scene " + i, scenes[i]);
        }
        stateComesAfterOutside();
        noComesLast();
        noneIsNoRefusal();
        due.end();
    }

    private static int[] outside(int least, int greatest) {
        return new int[] {least, greatest, PromiseHours.OUTSIDE};
    }

    private interface Numbers {
        void take(int[] numbers);
    }

    private static void everyMixture(Face face, Numbers numbers) {
        mix(face, new int[face.ranges.length], 0, numbers);
    }

    private static void mix(Face face, int[] numbers, int place, Numbers sink) {
        if (place == numbers.length) {
            sink.take(numbers);
            return;
        }
        for (int n : Edges.around(face.ranges[place][0], face.ranges[place][1])) {
            numbers[place] = n;
            mix(face, numbers, place + 1, sink);
        }
    }

    private static String text(String when, Face face, int[] numbers) {
        StringBuilder text = new StringBuilder(when).append(": ").append(face.name);
        for (int n : numbers) {
            text.append(' ').append(n);
        }
        return text.toString();
    }

    private static void refusedChangesNothing(String when, Scene scene, Face face) {
        PromiseHours x = scene.make();
        int[] before = Told.all(x);
        everyMixture(face, numbers -> {
            int want = face.dueOf(numbers);
            if (want < 0) {
                String call = text(when, face, numbers);
                due.is(call, face.call.of(x, numbers), want);
                due.same(call, before, x);
            }
        });
    }

    private static void tellingChangesNothing(String when, Scene scene, Face face) {
        PromiseHours x = scene.make();
        int[] before = Told.all(x);
        everyMixture(face, numbers -> {
            int want = face.dueOf(numbers);
            int got = face.call.of(x, numbers);
            if (want < 0) {
                due.is(text(when, face, numbers), got, want);
            } else {
                due.holds(text(when, face, numbers) + " is taken", got >= 0 || got == PromiseHours.NONE);
            }
        });
        due.same(when + ", " + face.name, before, x);
    }

    private static void countRefusesNine(String when, Scene scene) {
        PromiseHours x = scene.make();
        int[] before = Told.all(x);
        for (int what : Edges.around(0, 13)) {
            boolean taken = what >= 0 && what <= 13 && what != 9;
            due.holds(when + ": count(" + what + ")", taken ? x.count(what) >= 0 : x.count(what) == PromiseHours.OUTSIDE);
        }
        due.same(when + ", count", before, x);
    }

    private static void rowsTellNoneBeyondTheirEnds(String when, Scene scene) {
        PromiseHours x = scene.make();
        int[] before = Told.all(x);
        for (int i : Edges.beyond(0, 3)) {
            due.is(when + ": cause(" + i + ")", x.cause(i), PromiseHours.NONE);
        }
        for (int i : Edges.beyond(0, 4)) {
            due.is(when + ": waited(" + i + ")", x.waited(i), PromiseHours.NONE);
        }
        for (int i : Edges.beyond(0, 11)) {
            due.is(when + ": waiting(" + i + ")", x.waiting(i), PromiseHours.NONE);
        }
        due.same(when + ", rows", before, x);
    }

    /** What an IMAGE keeps is told only after restore, so a twin without refused calls is compared. */
    private static void refusedLeavesImagesAsTheyWere(String when, Scene scene) {
        PromiseHours x = withTwoImages(scene);
        PromiseHours twin = withTwoImages(scene);
        for (Face face : CHANGING) {
            everyMixture(face, numbers -> {
                if (face.dueOf(numbers) < 0) {
                    face.call.of(x, numbers);
                }
            });
        }
        due.same(when + ", refused calls", Told.all(twin), x);
        for (int k = 0; k < 2; k++) {
            due.is(when + ": restore(" + k + ")", x.restore(k), twin.restore(k));
            due.same(when + ", refused calls and restore", Told.all(twin), x);
        }
    }

    private static PromiseHours withTwoImages(Scene scene) {
        PromiseHours x = scene.make();
        x.image(0);
        x.pass(1);
        x.image(1);
        x.pass(1);
        return x;
    }

    private static void stateComesAfterOutside() {
        PromiseHours x = new PromiseHours();
        int[] before = Told.all(x);
        for (int k : Edges.around(0, 1)) {
            int want = k == 0 || k == 1 ? PromiseHours.STATE : PromiseHours.OUTSIDE;
            due.is("restore(" + k + "), nothing kept", x.restore(k), want);
            due.same("restore(" + k + ")", before, x);
        }
    }

    private static void noComesLast() {
        PromiseHours x = Scenes.full();
        int[] before = Told.all(x);
        for (int t : Edges.around(0, 11)) {
            for (int way : Edges.around(0, 1)) {
                int want = t < 0 || t > 11 ? PromiseHours.UNKNOWN
                        : way < 0 || way > 1 ? PromiseHours.OUTSIDE : PromiseHours.NO;
                due.is("write(" + t + ", " + way + "), all WAIT", x.write(t, way), want);
            }
        }
        due.same("refused WRITES", before, x);
    }

    /** "The constants: What refused calls answer; NONE: there is none." */
    private static void noneIsNoRefusal() {
        int[] wants = {-1, -2, -3, -5, -6};
        int[] found = {PromiseHours.UNKNOWN, PromiseHours.OUTSIDE, PromiseHours.STATE, PromiseHours.NO,
            PromiseHours.NONE};
        for (int i = 0; i < wants.length; i++) {
            due.is("constant " + i, found[i], wants[i]);
        }
    }
}
