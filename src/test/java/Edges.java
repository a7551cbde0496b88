import java.util.stream.IntStream;

/** Numbers at and beyond the ends of what a call takes. */
final class Edges {
    /** Ends of the document's ranges, shifts that wrap around, and ends of int and its parts. */
    private static final int[] FAR = {
        Integer.MIN_VALUE, Integer.MIN_VALUE + 1, -(1 << 30), -65536, -501, -201, -101, -100, -33, -32, -22,
        -12, -10, -9, -6, -5, -4, -3, -2, 21, 31, 32, 33, 64, 99, 101, 127, 128, 201, 255, 256, 257, 501,
        32768, 65535, 65536, 1 << 30, Integer.MAX_VALUE - 1, Integer.MAX_VALUE};

    private Edges() {
    }

    /** The first beyond each end, and far ones. */
    static int[] beyond(int least, int greatest) {
        return IntStream.concat(IntStream.of(least - 1, greatest + 1), IntStream.of(FAR))
                .filter(n -> n < least || n > greatest).distinct().toArray();
    }

    /** Both ends, what is beyond them, and what lies between. */
    static int[] around(int least, int greatest) {
        return IntStream.concat(IntStream.rangeClosed(least, greatest), IntStream.of(beyond(least, greatest)))
                .toArray();
    }
}
