import java.util.Arrays;

/**
 * Copies that are held by promises of hours. The words in capitals in the
 * comments (THING, TERM, PROMISE, ..) are the document's.
 */
public final class PromiseHours {
    public static final int UNKNOWN = -1, OUTSIDE = -2, STATE = -3, NO = -5, NONE = -6;

    private static final int VOLUMES = 3;
    private static final int THINGS_OF_A_VOLUME = 4;
    private static final int THINGS = 12;
    private static final int READERS = 5;
    private static final int IMAGES = 2;

    private static final int LONG = 0;
    private static final int SHORT = 1;
    private static final int DOUBT = 2;
    private static final int KEEP = 3;
    private static final int RULES = 4;
    private static final int[] LEAST_RULES = {1, 1, 0, 0};
    private static final int[] GREATEST_RULES = {200, 100, 9, 500};
    private static final int[] FIRST_RULES = {40, 10, 1, 100};

    private static final int GREATEST_SKEW = 20;
    private static final int SKEW_ADDED = 100;
    private static final int MOST_TICKS = 100;

    private static final int WAITS_ONLY = 0;
    private static final int BREAKS = 1;

    private static final int USED = 0;
    private static final int USED_STALE = 1;
    private static final int ASKED_WITH_COPY = 2;
    private static final int ASKED_AT_WRITE = 3;
    private static final int READ_NOTHING = 4;

    private static final int READER_AWAY = 1;
    private static final int VOLUME_OVER = 2;
    private static final int THING_OVER = 3;
    private static final int NO_COPY = 4;
    private static final int CAUSES = 4;

    private final House house = new House();
    private final House[] images = {new House(), new House()};
    private int keptImages = 0;

    public PromiseHours() {
    }

    // ---- 1 what holds

    public int rule(int what, int n) {
        if (what < 0 || what >= RULES) {
            return OUTSIDE;
        }
        if (n < LEAST_RULES[what] || n > GREATEST_RULES[what]) {
            return OUTSIDE;
        }
        int before = house.rules[what];
        house.rules[what] = n;
        return before;
    }

    public int skew(int reader, int n) {
        if (!isReader(reader)) {
            return UNKNOWN;
        }
        if (n < -GREATEST_SKEW || n > GREATEST_SKEW) {
            return OUTSIDE;
        }
        house.readers[reader].skew = n;
        return house.countSkewedBeyondDoubt();
    }

    public int there(int reader, int on) {
        if (!isReader(reader)) {
            return UNKNOWN;
        }
        if (on != 0 && on != 1) {
            return OUTSIDE;
        }
        Reader who = house.readers[reader];
        boolean comesBack = on == 1 && !who.isThere;
        who.isThere = on == 1;
        return comesBack ? house.settleAll() : 0;
    }

    // ---- 2 reads, writes, ticks

    public int read(int reader, int thing) {
        if (!isReader(reader) || !isThing(thing)) {
            return UNKNOWN;
        }
        return house.readBy(house.readers[reader], thing);
    }

    public int write(int thing, int way) {
        if (!isThing(thing)) {
            return UNKNOWN;
        }
        if (way != WAITS_ONLY && way != BREAKS) {
            return OUTSIDE;
        }
        if (house.isWaiting(thing)) {
            return NO;
        }
        return house.tellWrite(thing, way);
    }

    public int pass(int ticks) {
        if (ticks < 1 || ticks > MOST_TICKS) {
            return OUTSIDE;
        }
        int done = 0;
        for (int i = 0; i < ticks; i++) {
            house.tick++;
            done += house.settleAll();
        }
        return done;
    }

    // ---- 3 what is told

    public int cause(int i) {
        return i >= 0 && i < house.causeCount ? house.causes[i] : NONE;
    }

    public int waited(int i) {
        return i >= 0 && i < house.waitedCount ? house.waitedFor[i] : NONE;
    }

    public int thing(int thing, int what) {
        if (!isThing(thing)) {
            return UNKNOWN;
        }
        switch (what) {
            case 0: return house.versions[thing];
            case 1: return bit(house.isWaiting(thing));
            case 2: return house.ways[thing];
            case 3: return house.isWaiting(thing) ? house.dueOf(thing) : NONE;
            case 4: return house.holdersOf(thing);
            case 5: return house.readersWithCopy(thing);
            case 6: return house.readersWithUse(thing);
            default: return OUTSIDE;
        }
    }

    public int copy(int reader, int thing, int what) {
        if (!isReader(reader) || !isThing(thing)) {
            return UNKNOWN;
        }
        Reader who = house.readers[reader];
        switch (what) {
            case 0: return who.copies[thing];
            case 1: return who.terms[thing];
            case 2: return who.promises[thing];
            case 3: return bit(house.canUse(who, thing));
            default: return OUTSIDE;
        }
    }

    public int volume(int reader, int volume, int what) {
        if (!isReader(reader) || volume < 0 || volume >= VOLUMES) {
            return UNKNOWN;
        }
        Reader who = house.readers[reader];
        switch (what) {
            case 0: return who.volumeTerms[volume];
            case 1: return bit(house.isOver(who, who.volumeTerms[volume]));
            case 2: return who.lists[volume];
            default: return OUTSIDE;
        }
    }

    public int reader(int reader, int what) {
        if (!isReader(reader)) {
            return UNKNOWN;
        }
        Reader who = house.readers[reader];
        switch (what) {
            case 0: return bit(who.isThere);
            case 1: return who.skew + SKEW_ADDED;
            case 2: return who.lastVersion;
            case 3: return who.timesUsed;
            case 4: return who.timesAsked;
            case 5: return who.timesNothing;
            case 6: return who.letters;
            case 7: return who.copiesLost;
            default: return OUTSIDE;
        }
    }

    public int waiting(int i) {
        return i >= 0 && i < house.lineLength ? house.line[i] : NONE;
    }

    public int count(int what) {
        switch (what) {
            case 0: return house.tick;
            case 1: return house.staleReads;
            case 2: return house.writesTold;
            case 3: return house.writesDone;
            case 4: return house.lineLength;
            case 5: return house.lettersSent;
            case 6: return house.timesListed;
            case 7: return house.timesRenewed;
            case 8: return keptImages;
            case 10: return house.rules[LONG];
            case 11: return house.rules[SHORT];
            case 12: return house.rules[DOUBT];
            case 13: return house.rules[KEEP];
            default: return OUTSIDE;
        }
    }

    // ---- 4 images

    public int image(int k) {
        if (!isImage(k)) {
            return OUTSIDE;
        }
        images[k].becomeLike(house);
        keptImages |= 1 << k;
        return 1;
    }

    public int restore(int k) {
        if (!isImage(k)) {
            return OUTSIDE;
        }
        if (!isInSet(keptImages, k)) {
            return STATE;
        }
        house.becomeLike(images[k]);
        return 1;
    }

    // ---- what all of it uses

    private static boolean isReader(int n) {
        return n >= 0 && n < READERS;
    }

    private static boolean isThing(int n) {
        return n >= 0 && n < THINGS;
    }

    private static boolean isImage(int n) {
        return n >= 0 && n < IMAGES;
    }

    private static int volumeOf(int thing) {
        return thing / THINGS_OF_A_VOLUME;
    }

    private static boolean isInSet(int set, int n) {
        return (set & (1 << n)) != 0;
    }

    private static int bit(boolean holds) {
        return holds ? 1 : 0;
    }

    private static void copyRow(int[] from, int[] to) {
        System.arraycopy(from, 0, to, 0, Math.min(from.length, to.length));
    }

    /** A READER, with what the house has promised it. */
    private static final class Reader {
        private boolean isThere = true;
        private int skew = 0;
        /** By THING: the VERSION of the COPY, or NONE. */
        private final int[] copies = new int[THINGS];
        private final int[] terms = new int[THINGS];
        private final int[] promises = new int[THINGS];
        private final int[] volumeTerms = new int[VOLUMES];
        /** By VOLUME: the LIST, as a set of THINGS 0 to 11. */
        private final int[] lists = new int[VOLUMES];
        private int lastVersion = NONE;
        private int timesUsed = 0;
        private int timesAsked = 0;
        private int timesNothing = 0;
        private int letters = 0;
        private int copiesLost = 0;

        private Reader() {
            Arrays.fill(copies, NONE);
        }

        private boolean hasCopy(int thing) {
            return copies[thing] != NONE;
        }

        private void takeCopy(int thing, int version, int until) {
            copies[thing] = version;
            terms[thing] = until;
            promises[thing] = until;
        }

        private void dropCopy(int thing) {
            takeCopy(thing, NONE, 0);
        }

        private int volumeTermFor(int thing) {
            return volumeTerms[volumeOf(thing)];
        }

        /** The TICK from which on a WRITE need not wait for this HOLDER. */
        private int holdsUntil(int thing) {
            return Math.min(promises[thing], volumeTermFor(thing));
        }

        private void becomeLike(Reader other) {
            isThere = other.isThere;
            skew = other.skew;
            copyRow(other.copies, copies);
            copyRow(other.terms, terms);
            copyRow(other.promises, promises);
            copyRow(other.volumeTerms, volumeTerms);
            copyRow(other.lists, lists);
            lastVersion = other.lastVersion;
            timesUsed = other.timesUsed;
            timesAsked = other.timesAsked;
            timesNothing = other.timesNothing;
            letters = other.letters;
            copiesLost = other.copiesLost;
        }
    }

    /** All that an IMAGE keeps. */
    private static final class House {
        private int tick = 0;
        private final int[] rules = new int[RULES];
        private final Reader[] readers =
                {new Reader(), new Reader(), new Reader(), new Reader(), new Reader()};
        private final int[] versions = new int[THINGS];
        /** By THING: the way of the WRITE that WAITS, or NONE. */
        private final int[] ways = new int[THINGS];
        /** The THINGS whose WRITES WAIT, as they came. */
        private final int[] line = new int[THINGS];
        private int lineLength = 0;
        private final int[] causes = new int[CAUSES];
        private int causeCount = 0;
        private final int[] waitedFor = new int[READERS];
        private int waitedCount = 0;
        private int staleReads = 0;
        private int writesTold = 0;
        private int writesDone = 0;
        private int lettersSent = 0;
        private int timesListed = 0;
        private int timesRenewed = 0;

        private House() {
            copyRow(FIRST_RULES, rules);
            Arrays.fill(ways, NONE);
        }

        private boolean isOver(Reader who, int term) {
            return tick + who.skew + rules[DOUBT] >= term;
        }

        private boolean canUse(Reader who, int thing) {
            return who.hasCopy(thing)
                    && !isOver(who, who.terms[thing])
                    && !isOver(who, who.volumeTermFor(thing));
        }

        private boolean isHolder(Reader who, int thing) {
            return who.promises[thing] > tick;
        }

        private boolean isWaiting(int thing) {
            return ways[thing] != NONE;
        }

        private int countSkewedBeyondDoubt() {
            int found = 0;
            for (int r = 0; r < READERS; r++) {
                found += bit(Math.abs(readers[r].skew) > rules[DOUBT]);
            }
            return found;
        }

        // ---- READ

        private int readBy(Reader who, int thing) {
            if (canUse(who, thing)) {
                return useCopy(who, thing);
            }
            noteCauses(who, thing);
            if (!who.isThere) {
                who.timesNothing++;
                return READ_NOTHING;
            }
            return askHouse(who, thing);
        }

        private int useCopy(Reader who, int thing) {
            who.timesUsed++;
            who.lastVersion = who.copies[thing];
            if (who.copies[thing] == versions[thing]) {
                return USED;
            }
            staleReads++;
            return USED_STALE;
        }

        private void noteCauses(Reader who, int thing) {
            causeCount = 0;
            addCauseIf(!who.isThere, READER_AWAY);
            addCauseIf(isOver(who, who.volumeTermFor(thing)), VOLUME_OVER);
            addCauseIf(isOver(who, who.terms[thing]), THING_OVER);
            addCauseIf(!who.hasCopy(thing), NO_COPY);
        }

        private void addCauseIf(boolean fits, int cause) {
            if (fits && causeCount < CAUSES) {
                causes[causeCount] = cause;
                causeCount++;
            }
        }

        private int askHouse(Reader who, int thing) {
            who.timesAsked++;
            int volumeTerm = who.volumeTermFor(thing);
            // A slow clock may still trust a TERM that has passed for the house.
            if (isOver(who, volumeTerm) || volumeTerm <= tick) {
                renew(who, volumeOf(thing));
            }
            who.lastVersion = versions[thing];
            if (isWaiting(thing)) {
                return ASKED_AT_WRITE;
            }
            who.takeCopy(thing, versions[thing], tick + rules[LONG]);
            return ASKED_WITH_COPY;
        }

        private void renew(Reader who, int volume) {
            if (who.lists[volume] != 0) {
                dropByList(who, volume);
            }
            who.volumeTerms[volume] = tick + rules[SHORT];
            timesRenewed++;
        }

        private void dropByList(Reader who, int volume) {
            boolean dropsAll = tick - who.volumeTerms[volume] > rules[KEEP];
            int first = volume * THINGS_OF_A_VOLUME;
            for (int thing = first; thing < first + THINGS_OF_A_VOLUME; thing++) {
                if (dropsAll || isInSet(who.lists[volume], thing)) {
                    who.copiesLost += bit(who.hasCopy(thing));
                    who.dropCopy(thing);
                }
            }
            who.lists[volume] = 0;
        }

        // ---- WRITE

        private int tellWrite(int thing, int way) {
            writesTold++;
            ways[thing] = way;
            boolean done = settle(thing);
            noteWaitedFor(thing);
            if (done) {
                return 0;
            }
            joinLine(thing);
            return dueOf(thing) - tick;
        }

        private void joinLine(int thing) {
            if (lineLength < THINGS) {
                line[lineLength] = thing;
                lineLength++;
            }
        }

        /** How many of the WRITES that WAIT are DONE now. */
        private int settleAll() {
            int before = lineLength;
            int left = 0;
            for (int i = 0; i < before; i++) {
                int thing = line[i];
                if (!settle(thing)) {
                    line[left] = thing;
                    left++;
                }
            }
            lineLength = left;
            return before - left;
        }

        /** Whether the WRITE is DONE by this. */
        private boolean settle(int thing) {
            for (int r = 0; r < READERS; r++) {
                if (isHolder(readers[r], thing)) {
                    settleHolder(readers[r], thing);
                }
            }
            if (holdersOf(thing) != 0) {
                return false;
            }
            versions[thing]++;
            ways[thing] = NONE;
            writesDone++;
            return true;
        }

        private void settleHolder(Reader who, int thing) {
            if (who.volumeTermFor(thing) <= tick) {
                putOnList(who, thing);
            } else if (ways[thing] == BREAKS && who.isThere) {
                sendLetter(who, thing);
            }
        }

        private void putOnList(Reader who, int thing) {
            int volume = volumeOf(thing);
            if (!isInSet(who.lists[volume], thing)) {
                timesListed++;
            }
            who.lists[volume] |= 1 << thing;
            who.promises[thing] = 0;
        }

        private void sendLetter(Reader who, int thing) {
            lettersSent++;
            who.letters++;
            who.dropCopy(thing);
        }

        /**
         * Only for a WRITE that WAITS. Whom it could break was broken when it
         * was last SETTLED, so only time ends what its HOLDERS have.
         */
        private int dueOf(int thing) {
            int due = tick + 1;
            for (int r = 0; r < READERS; r++) {
                if (isHolder(readers[r], thing)) {
                    due = Math.max(due, readers[r].holdsUntil(thing));
                }
            }
            return due;
        }

        private void noteWaitedFor(int thing) {
            waitedCount = 0;
            for (int r = 0; r < READERS; r++) {
                if (isHolder(readers[r], thing)) {
                    insertWaitedFor(r, thing);
                }
            }
        }

        private void insertWaitedFor(int reader, int thing) {
            int until = readers[reader].holdsUntil(thing);
            int place = waitedCount;
            while (place > 0 && readers[waitedFor[place - 1]].holdsUntil(thing) < until) {
                waitedFor[place] = waitedFor[place - 1];
                place--;
            }
            waitedFor[place] = reader;
            waitedCount++;
        }

        // ---- sets of READERS

        private int holdersOf(int thing) {
            int set = 0;
            for (int r = 0; r < READERS; r++) {
                set |= bit(isHolder(readers[r], thing)) << r;
            }
            return set;
        }

        private int readersWithCopy(int thing) {
            int set = 0;
            for (int r = 0; r < READERS; r++) {
                set |= bit(readers[r].hasCopy(thing)) << r;
            }
            return set;
        }

        private int readersWithUse(int thing) {
            int set = 0;
            for (int r = 0; r < READERS; r++) {
                set |= bit(canUse(readers[r], thing)) << r;
            }
            return set;
        }

        private void becomeLike(House other) {
            tick = other.tick;
            copyRow(other.rules, rules);
            for (int r = 0; r < READERS; r++) {
                readers[r].becomeLike(other.readers[r]);
            }
            copyRow(other.versions, versions);
            copyRow(other.ways, ways);
            copyRow(other.line, line);
            lineLength = other.lineLength;
            copyRow(other.causes, causes);
            causeCount = other.causeCount;
            copyRow(other.waitedFor, waitedFor);
            waitedCount = other.waitedCount;
            staleReads = other.staleReads;
            writesTold = other.writesTold;
            writesDone = other.writesDone;
            lettersSent = other.lettersSent;
            timesListed = other.timesListed;
            timesRenewed = other.timesRenewed;
        }
    }
}
