import java.util.ArrayList;
import java.util.List;

/** All that an object tells about itself, as one row of numbers. */
final class Told {
    static final int THINGS = 12;
    static final int READERS = 5;
    static final int VOLUMES = 3;

    private interface Rows {
        void add(String call, int answer);
    }

    private Told() {
    }

    static int[] all(PromiseHours x) {
        List<Integer> answers = new ArrayList<>();
        tell(x, (call, answer) -> answers.add(answer));
        return answers.stream().mapToInt(Integer::intValue).toArray();
    }

    static String difference(int[] before, int[] now) {
        List<String> calls = new ArrayList<>();
        tell(new PromiseHours(), (call, answer) -> calls.add(call));
        StringBuilder text = new StringBuilder();
        for (int i = 0; i < now.length; i++) {
            if (before[i] != now[i]) {
                text.append(calls.get(i)).append(" is ").append(now[i])
                        .append(", due is ").append(before[i]).append("; ");
            }
        }
        return text.toString();
    }

    private static void tell(PromiseHours x, Rows rows) {
        for (int i = -1; i <= THINGS; i++) {
            rows.add("cause(" + i + ")", x.cause(i));
            rows.add("waited(" + i + ")", x.waited(i));
            rows.add("waiting(" + i + ")", x.waiting(i));
        }
        for (int what = -1; what <= 14; what++) {
            rows.add("count(" + what + ")", x.count(what));
        }
        for (int t = 0; t < THINGS; t++) {
            for (int what = -1; what <= 7; what++) {
                rows.add("thing(" + t + ", " + what + ")", x.thing(t, what));
            }
        }
        for (int r = 0; r < READERS; r++) {
            tellReader(x, r, rows);
        }
    }

    private static void tellReader(PromiseHours x, int r, Rows rows) {
        for (int what = -1; what <= 8; what++) {
            rows.add("reader(" + r + ", " + what + ")", x.reader(r, what));
        }
        for (int v = 0; v < VOLUMES; v++) {
            for (int what = -1; what <= 3; what++) {
                rows.add("volume(" + r + ", " + v + ", " + what + ")", x.volume(r, v, what));
            }
        }
        for (int t = 0; t < THINGS; t++) {
            for (int what = -1; what <= 4; what++) {
                rows.add("copy(" + r + ", " + t + ", " + what + ")", x.copy(r, t, what));
            }
        }
    }
}
