import java.util.ArrayList;
import java.util.Comparator;
import java.util.List;
import java.util.Map;
import java.util.TreeMap;
import java.util.TreeSet;

/**
 * The document once more, in another form than the class: a state is made by
 * playing a history of calls, so an IMAGE is a history; DUE is found by letting
 * TICKS pass; sets and orders are the library's.
 */
final class Model {
    static final int RULE = 0, SKEW = 1, THERE = 2, READ = 3, WRITE = 4, PASS = 5, IMAGE = 6, RESTORE = 7;

    private static final int UNKNOWN = -1, OUTSIDE = -2, STATE = -3, NO = -5, NONE = -6;

    private List<int[]> history = new ArrayList<>();
    private final Map<Integer, List<int[]>> images = new TreeMap<>();
    private Now now = new Now();

    int call(int[] c) {
        if (c[0] == IMAGE || c[0] == RESTORE) {
            return callImage(c[0], c[1]);
        }
        int answer = now.play(c);
        if (answer >= 0) {
            history.add(c);
        }
        return answer;
    }

    private int callImage(int call, int k) {
        if (k < 0 || k > 1) {
            return OUTSIDE;
        }
        if (call == IMAGE) {
            images.put(k, new ArrayList<>(history));
            return 1;
        }
        if (!images.containsKey(k)) {
            return STATE;
        }
        history = new ArrayList<>(images.get(k));
        now = new Now();
        history.forEach(now::play);
        return 1;
    }

    int cause(int i) {
        return at(now.causes, i);
    }

    int waited(int i) {
        return at(now.waited, i);
    }

    int waiting(int i) {
        return at(new ArrayList<>(now.writes.keySet()), i);
    }

    int thing(int t, int what) {
        Integer way = now.writes.get(t);
        switch (what) {
            case 0: return now.version[t];
            case 1: return way == null ? 0 : 1;
            case 2: return way == null ? NONE : way;
            case 3: return way == null ? NONE : now.due(t);
            default: break;
        }
        int set = 0;
        for (Person p : now.people) {
            boolean in = what == 4 ? now.holds(p, t) : what == 5 ? p.copies.containsKey(t) : now.uses(p, t);
            set += in ? (int) Math.pow(2, p.number) : 0;
        }
        return set;
    }

    int copy(int r, int t, int what) {
        Person p = now.people.get(r);
        switch (what) {
            case 0: return p.copies.getOrDefault(t, NONE);
            case 1: return p.terms.getOrDefault(t, 0);
            case 2: return p.promises.getOrDefault(t, 0);
            default: return now.uses(p, t) ? 1 : 0;
        }
    }

    int volume(int r, int v, int what) {
        Person p = now.people.get(r);
        switch (what) {
            case 0: return p.volumeTerms.getOrDefault(v, 0);
            case 1: return now.over(p, p.volumeTerms.getOrDefault(v, 0)) ? 1 : 0;
            default: return p.listed.stream().filter(t -> t / 4 == v).mapToInt(t -> 1 << t).sum();
        }
    }

    int reader(int r, int what) {
        Person p = now.people.get(r);
        int[] told = {p.away ? 0 : 1, p.skew + 100, p.lastRead, p.used, p.asked, p.nothing, p.letters, p.lost};
        return told[what];
    }

    int count(int what) {
        int kept = images.keySet().stream().mapToInt(k -> 1 << k).sum();
        int[] told = {now.tick, now.stale, now.told, now.done, now.writes.size(),
            now.people.stream().mapToInt(p -> p.letters).sum(), now.cameOnList, now.renewed, kept, OUTSIDE,
            now.rules[0], now.rules[1], now.rules[2], now.rules[3]};
        return told[what];
    }

    private static int at(List<Integer> list, int i) {
        return i < 0 || i >= list.size() ? NONE : list.get(i);
    }

    private static final class Person {
        private final int number;
        private boolean away;
        private int skew;
        private final Map<Integer, Integer> copies = new TreeMap<>();
        private final Map<Integer, Integer> terms = new TreeMap<>();
        private final Map<Integer, Integer> promises = new TreeMap<>();
        private final Map<Integer, Integer> volumeTerms = new TreeMap<>();
        private final TreeSet<Integer> listed = new TreeSet<>();
        private int lastRead = NONE;
        private int used;
        private int asked;
        private int nothing;
        private int letters;
        private int lost;

        private Person(int number) {
            this.number = number;
        }

        private void forget(int t) {
            copies.remove(t);
            terms.remove(t);
            promises.remove(t);
        }
    }

    private static final class Now {
        private final int[] rules = {40, 10, 1, 100};
        private final List<Person> people = new ArrayList<>();
        private final int[] version = new int[12];
        /** THING to way, as they came. */
        private final Map<Integer, Integer> writes = new java.util.LinkedHashMap<>();
        private final List<Integer> causes = new ArrayList<>();
        private final List<Integer> waited = new ArrayList<>();
        private int tick;
        private int stale;
        private int told;
        private int done;
        private int cameOnList;
        private int renewed;

        private Now() {
            for (int r = 0; r < 5; r++) {
                people.add(new Person(r));
            }
        }

        private static boolean between(int n, int least, int greatest) {
            return least <= n && n <= greatest;
        }

        private int play(int[] c) {
            switch (c[0]) {
                case RULE: return rule(c[1], c[2]);
                case SKEW: return skew(c[1], c[2]);
                case THERE: return there(c[1], c[2]);
                case READ: return read(c[1], c[2]);
                case WRITE: return write(c[1], c[2]);
                default: return pass(c[1]);
            }
        }

        private int rule(int what, int n) {
            boolean fits = what == 0 && between(n, 1, 200) || what == 1 && between(n, 1, 100)
                    || what == 2 && between(n, 0, 9) || what == 3 && between(n, 0, 500);
            if (!fits) {
                return OUTSIDE;
            }
            int was = rules[what];
            rules[what] = n;
            return was;
        }

        private int skew(int r, int n) {
            if (!between(r, 0, 4)) {
                return UNKNOWN;
            }
            if (!between(n, -20, 20)) {
                return OUTSIDE;
            }
            people.get(r).skew = n;
            return (int) people.stream().filter(p -> !between(p.skew, -rules[2], rules[2])).count();
        }

        private int there(int r, int on) {
            if (!between(r, 0, 4)) {
                return UNKNOWN;
            }
            if (!between(on, 0, 1)) {
                return OUTSIDE;
            }
            boolean was = people.get(r).away;
            people.get(r).away = on == 0;
            int before = done;
            if (was && on == 1) {
                settleAll();
            }
            return done - before;
        }

        private boolean over(Person p, int term) {
            return term <= tick + p.skew + rules[2];
        }

        private boolean uses(Person p, int t) {
            boolean thingOver = over(p, p.terms.getOrDefault(t, 0));
            boolean volumeOver = over(p, p.volumeTerms.getOrDefault(t / 4, 0));
            return p.copies.containsKey(t) && !(thingOver || volumeOver);
        }

        private boolean holds(Person p, int t) {
            return tick < p.promises.getOrDefault(t, 0);
        }

        private int read(int r, int t) {
            if (!between(r, 0, 4) || !between(t, 0, 11)) {
                return UNKNOWN;
            }
            Person p = people.get(r);
            if (uses(p, t)) {
                p.used++;
                p.lastRead = p.copies.get(t);
                boolean old = p.lastRead != version[t];
                stale += old ? 1 : 0;
                return old ? 1 : 0;
            }
            int volumeTerm = p.volumeTerms.getOrDefault(t / 4, 0);
            boolean[] fits = {p.away, over(p, volumeTerm), over(p, p.terms.getOrDefault(t, 0)), !p.copies.containsKey(t)};
            causes.clear();
            for (int i = 0; i < 4; i++) {
                if (fits[i]) {
                    causes.add(i + 1);
                }
            }
            if (p.away) {
                p.nothing++;
                return 4;
            }
            p.asked++;
            if (over(p, volumeTerm) || volumeTerm <= tick) {
                renew(p, t / 4, volumeTerm);
            }
            p.lastRead = version[t];
            if (writes.containsKey(t)) {
                return 3;
            }
            p.copies.put(t, version[t]);
            p.terms.put(t, tick + rules[0]);
            p.promises.put(t, tick + rules[0]);
            return 2;
        }

        private void renew(Person p, int v, int volumeTerm) {
            TreeSet<Integer> volume = new TreeSet<>(List.of(v * 4, v * 4 + 1, v * 4 + 2, v * 4 + 3));
            TreeSet<Integer> go = new TreeSet<>(volume);
            go.retainAll(p.listed);
            if (!go.isEmpty() && tick - volumeTerm > rules[3]) {
                go = volume;
            }
            int before = p.copies.size();
            go.forEach(p::forget);
            p.lost += before - p.copies.size();
            p.listed.removeAll(volume);
            p.volumeTerms.put(v, tick + rules[1]);
            renewed++;
        }

        private int write(int t, int way) {
            if (!between(t, 0, 11)) {
                return UNKNOWN;
            }
            if (!between(way, 0, 1)) {
                return OUTSIDE;
            }
            if (writes.containsKey(t)) {
                return NO;
            }
            told++;
            writes.put(t, way);
            settle(t);
            waited.clear();
            people.stream().filter(p -> holds(p, t))
                    .sorted(Comparator.comparing((Person p) -> -Math.min(p.promises.get(t), p.volumeTerms.get(t / 4)))
                            .thenComparing(p -> p.number))
                    .forEach(p -> waited.add(p.number));
            return writes.containsKey(t) ? due(t) - tick : 0;
        }

        private int pass(int ticks) {
            if (!between(ticks, 1, 100)) {
                return OUTSIDE;
            }
            int before = done;
            for (int i = 0; i < ticks; i++) {
                tick++;
                settleAll();
            }
            return done - before;
        }

        private void settleAll() {
            new ArrayList<>(writes.keySet()).forEach(this::settle);
        }

        private void settle(int t) {
            boolean held = false;
            for (Person p : people) {
                if (!holds(p, t)) {
                    continue;
                }
                if (p.volumeTerms.getOrDefault(t / 4, 0) <= tick) {
                    cameOnList += p.listed.add(t) ? 1 : 0;
                    p.promises.remove(t);
                } else if (writes.get(t) == 1 && !p.away) {
                    p.letters++;
                    p.forget(t);
                } else {
                    held = true;
                }
            }
            if (!held) {
                version[t]++;
                writes.remove(t);
                done++;
            }
        }

        /** Lets TICKS pass for this THING alone, as other THINGS do not touch it. */
        private int due(int t) {
            TreeSet<Integer> left = new TreeSet<>(List.of(0, 1, 2, 3, 4));
            int then = tick;
            while (then == tick || !left.isEmpty()) {
                then++;
                int at = then;
                left.removeIf(r -> {
                    Person p = people.get(r);
                    return p.promises.getOrDefault(t, 0) <= at || p.volumeTerms.getOrDefault(t / 4, 0) <= at
                            || writes.get(t) == 1 && !p.away;
                });
            }
            return then;
        }
    }
}
