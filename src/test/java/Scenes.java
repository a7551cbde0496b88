/** Objects in states that several tests start from. */
final class Scenes {
    private Scenes() {
    }

    /**
     * TICK 7. THING 1 WAITS (way 1) for READERS 3 and 1, who are away, THING 5
     * (way 0) for READER 2. LISTS of READERS 0 and 4 hold THINGS 8 and 9, and
     * READER 4's clock is slow. There were a LETTER to READER 0, a STALE READ
     * by READER 4, and a READ of nothing by READER 3.
     */
    static PromiseHours busy() {
        PromiseHours x = new PromiseHours();
        x.rule(1, 3);
        x.read(0, 8);
        x.read(4, 9);
        x.skew(4, -7);
        x.pass(4);
        x.rule(1, 10);
        x.write(8, 0);
        x.write(9, 0);
        x.read(4, 9);
        x.read(1, 1);
        x.read(0, 1);
        x.pass(3);
        x.read(3, 1);
        x.read(2, 5);
        x.there(1, 0);
        x.there(3, 0);
        x.read(3, 2);
        x.write(5, 0);
        x.write(1, 1);
        return x;
    }

    /**
     * TICK 1. All READERS hold all THINGS, and a WRITE of each THING WAITS for
     * all of them, by way 0 of the even ones, 1 of the others, told from 11 down;
     * all READERS are away.
     */
    static PromiseHours full() {
        PromiseHours x = new PromiseHours();
        x.pass(1);
        for (int r = 0; r < Told.READERS; r++) {
            for (int t = 0; t < Told.THINGS; t++) {
                x.read(r, t);
            }
            x.there(r, 0);
        }
        for (int t = Told.THINGS - 1; t >= 0; t--) {
            x.write(t, t % 2);
        }
        return x;
    }

    /** TICKS pass to this one, if it is not past. */
    static void passTo(PromiseHours x, int tick) {
        for (int left = tick - x.count(0); left > 0; left -= 100) {
            x.pass(Math.min(100, left));
        }
    }
}
